theorem pPence_range {k num y w : Int32} (hn : 0 ≤ num ∧ num ≤ 9) (hy : 0 ≤ y ∧ y ≤ 99) : 0 ≤ pPence k num y w ∧ pPence k num y w ≤ 198 := by
  obtain ⟨j, hj, rfl⟩ := ix_of (n := 100) hy.1 (Int32.lt_of_le_of_lt hy.2 (by decide)) (by decide)
  obtain ⟨i, hi, rfl⟩ := ix_of (n := 10) hn.1 (Int32.lt_of_le_of_lt hn.2 (by decide)) (by decide)
  have k1 : ∀ j, j < 100 → (0 ≤ pChild (nI j) ∧ pChild (nI j) ≤ 198) ∧ (0 ≤ pElder (nI j) ∧ pElder (nI j) ≤ 198) ∧ (0 ≤ 2 * pChild (nI j) ∧ 2 * pChild (nI j) ≤ 198) ∧ (0 ≤ pChild (nI j) + 1 ∧ pChild (nI j) + 1 ≤ 198) ∧ (0 ≤ nI j ∧ nI j ≤ 198) := by decide +kernel
  have k2 : ∀ j, j < 100 → ∀ i, i < 10 → 0 ≤ (if pElder (nI j) - nI i < 0 then 0 else pElder (nI j) - nI i) ∧ (if pElder (nI j) - nI i < 0 then 0 else pElder (nI j) - nI i) ≤ 198 := by decide +kernel
  obtain ⟨a1, a2, a3, a4, a5⟩ := k1 j hj
  unfold pPence
  split
  · exact a1
  · split
    · exact a2
    · split
      · exact a3
      · split
        · split
          · exact a4
          · exact a1
        · split
          · exact k2 j hj i hi
          · exact a5
theorem pHeld_range (v : Int32) : 0 ≤ pHeld v ∧ pHeld v ≤ 999 := by
  unfold pHeld
  split
  · decide
  · split
    · decide
    · next h1 h2 => exact ⟨Int32.not_lt.mp h1, Int32.not_lt.mp h2⟩
theorem pAsks_range {k num f : Int32} (hn : 0 ≤ num ∧ num ≤ 9) (hf : 0 ≤ f ∧ f ≤ 99) : 0 ≤ pAsks k num f ∧ pAsks k num f ≤ 207 := by
  obtain ⟨j, hj, rfl⟩ := ix_of (n := 100) hf.1 (Int32.lt_of_le_of_lt hf.2 (by decide)) (by decide)
  obtain ⟨i, hi, rfl⟩ := ix_of (n := 10) hn.1 (Int32.lt_of_le_of_lt hn.2 (by decide)) (by decide)
  have k1 : ∀ j, j < 100 → ∀ i, i < 10 → (0 ≤ nI j / 2 ∧ nI j / 2 ≤ 207) ∧ (0 ≤ nI j / 2 + 5 ∧ nI j / 2 + 5 ≤ 207) ∧ (0 ≤ 2 * nI j + nI i ∧ 2 * nI j + nI i ≤ 207) ∧ (0 ≤ nI j ∧ nI j ≤ 207) := by decide +kernel
  obtain ⟨a1, a2, a3, a4⟩ := k1 j hj i hi
  unfold pAsks
  split
  · exact a1
  · split
    · exact a2
    · split
      · exact a3
      · exact a4
theorem add_range {a b : Int32} {x y : Int} (ha : 0 ≤ a ∧ a.toInt ≤ x) (hb : 0 ≤ b ∧ b.toInt ≤ y) (h : x + y < 2147483648) : 0 ≤ a + b ∧ (a + b).toInt ≤ x + y := by (simp only [i32_eq, Int32.le_iff_toInt_le, Int32.lt_iff_toInt_lt, Int32.not_le, Int32.not_lt, Int32.toInt_add, Int32.toInt_sub, Int32.toInt_mul, Int32.toInt_neg, Int32.toInt_div, tdv2, tdv4, tdv10, tdv52, tdv100, nI_T, apply_ite Int32.toInt, Int.bmod, Int32.reduceToInt] at *; omega)
theorem kPrice_range {M : wS} (hB : IB M) (hw : 0 ≤ M.1 26 0 4 ∧ M.1 26 0 4 ≤ 51) {k : Nat} (hk : k < 7) (r e1 e2 : Nat) (fee n : Int32) (hn : 0 ≤ n ∧ n ≤ 103) : kPrice M r e1 e2 k fee n = -5 ∨ (0 ≤ kPrice M r e1 e2 k fee n ∧ (kPrice M r e1 e2 k fee n).toInt ≤ 1197) := by
  unfold kPrice
  split
  · exact Or.inl rfl
  · refine Or.inr ?_
    have h1 := pPence_range (k := M.1 5 k 0) (w := pWeek (M.1 26 0 4) n) (hB k hk).2.2.1 (pAgeC_range (hB k hk).2.1 (hB k hk).2.2.2.1 hw hn)
    have h2 := pHeld_range (xVal (kEnv M k fee n) (M.1 8 r) e1 (e2 - e1))
    exact add_range (x := 198) (y := 999) ⟨h1.1, Int32.le_iff_toInt_le.mp h1.2⟩ ⟨h2.1, Int32.le_iff_toInt_le.mp h2.2⟩ (by decide)
theorem kCost_range {M : wS} (hB : IB M) (hw : 0 ≤ M.1 26 0 4 ∧ M.1 26 0 4 ≤ 51) {k : Nat} (hk : k < 7) (r e1 e2 : Nat) (fee n : Int32) (hf : 0 ≤ fee ∧ fee ≤ 99) (hn : 0 ≤ n ∧ n ≤ 103) : kCost M r e1 e2 k fee n = -5 ∨ (0 ≤ kCost M r e1 e2 k fee n ∧ (kCost M r e1 e2 k fee n).toInt ≤ 1404) := by
  have h := kPrice_range hB hw hk r e1 e2 fee n hn
  unfold kCost
  split
  · next h1 =>
    rcases h with h | h
    · exact Or.inl h
    · exact absurd h1 (Int32.not_lt.mpr h.1)
  · next h1 =>
    have h2 : 0 ≤ kPrice M r e1 e2 k fee n ∧ (kPrice M r e1 e2 k fee n).toInt ≤ 1197 := by
      rcases h with h | h
      · rw [h] at h1; exact absurd (by decide) h1
      · exact h
    split
    · exact Or.inr ⟨h2.1, by omega⟩
    · have h3 := pAsks_range (k := M.1 5 k 0) (hB k hk).2.2.1 hf
      exact Or.inr (add_range (x := 1197) (y := 207) h2 ⟨h3.1, Int32.le_iff_toInt_le.mp h3.2⟩ (by decide))
theorem kLeastF_range {f : Nat → Int32} : ∀ (n b : Nat) (acc : Int32), (acc = -5 ∨ (0 ≤ acc ∧ acc.toInt ≤ 1404)) → (∀ k, k < b + n → f k = -5 ∨ (0 ≤ f k ∧ (f k).toInt ≤ 1404)) → (kLeastF f b n acc = -5 ∨ (0 ≤ kLeastF f b n acc ∧ (kLeastF f b n acc).toInt ≤ 1404)) := by
  intro n
  induction n with
  | zero => intro b acc h _; exact h
  | succ n ih =>
    intro b acc h hf
    refine ih (b + 1) _ ?_ (fun k hk => hf k (by omega))
    have h2 := hf b (by omega)
    unfold lstep
    split
    · exact h
    · split
      · exact h2
      · split
        · exact h
        · exact h2
theorem kLeast_range {M : wS} {nb nt r e1 e2 e3 : Nat} (hP : IP M nb nt r e1 e2 e3) (n : Int32) (hn : 0 ≤ n ∧ n ≤ 103) : kLeast M nb r e1 e2 n = -5 ∨ (0 ≤ kLeast M nb r e1 e2 n ∧ (kLeast M nb r e1 e2 n).toInt ≤ 1404) := by
  obtain ⟨⟨hnb, hn7⟩, -, -, hB, hw⟩ := hP
  exact kLeastF_range nb 0 _ (Or.inl rfl) (fun k hk => kCost_range hB hw (by omega) r e1 e2 _ n (hB k (by omega)).2.2.2.2 hn)
theorem tRun_scr {M M' : wS} (h : Scr M M') (v : Int32) : ∀ (n t : Nat) (q : Int32 × Int32 × Int32 × Int32), tRun M' v t n q = tRun M v t n q := by
  intro n
  induction n with
  | zero => intro t q; rfl
  | succ n ih =>
    intro t q
    have : tStep M' v t q = tStep M v t q := by
      unfold tStep
      rw [h.1 6 t (by decide), h.1 29 0 (by decide)]
    rw [tRun, tRun, this, ih]
theorem kTied_scr {M M' : wS} (h : Scr M M') (nt : Nat) (v : Int32) : kTied M' nt v ↔ kTied M nt v := by
  unfold kTied kTieQ kUnb
  rw [tRun_scr h, h.1 0 0 (by decide), h.1 26 0 (by decide)]
theorem kLeast_tie {M M' : wS} (h : Scr M M') (nt nb r e1 e2 : Nat) (v n : Int32) : kLeast (kTieM M' nt v) nb r e1 e2 n = kLeast (kTieM M nt v) nb r e1 e2 n := by
  unfold kTieM kTieQ
  rw [tRun_scr h]
  unfold kLeast
  exact congrArg (fun f => kLeastF f 0 nb (-5)) (funext fun k => by rw [kCost_show h, kShow_ne _ _ _ _ (by decide) (by decide), kShow_ne _ _ _ _ (by decide) (by decide), h.1 28 0 (by decide)])
/-- the price of a heap of what is open -/
noncomputable def kPr (M : wS) (O nb nt r e1 e2 S : Nat) : Option Nat := @ite _ (S &&& O = S ∧ kTied M nt (nI S) ∧ 0 ≤ kLeast (kTieM M nt (nI S)) nb r e1 e2 0) (Classical.propDecidable _) (some (kLeast (kTieM M nt (nI S)) nb r e1 e2 0).toNatClampNeg) none
theorem and_i : ∀ a, a < 128 → ∀ b, b < 128 → (nI a &&& (nI b ^^^ -1) = 0) = (a &&& b = a) := by decide +kernel
section S24
variable {l : Launch} {D : va_G} {cy : Nat → ClassId} {ad : Nat → Nat → Nat} {G d : Nat}
end S24
