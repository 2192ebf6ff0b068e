/-! the words of the law's texts -/
theorem wdL_spec (f : Nat → Int32) (q i : Nat) : ∀ n j, wdL f q i n j = true ↔ ∀ k, j ≤ k → k < j + n → f (q + k) = (wTby.getD i []).getD k 0 := by
  intro n
  induction n with
  | zero => intro j; exact ⟨fun _ k h1 h2 => absurd h2 (by omega), fun _ => rfl⟩
  | succ n ih =>
    intro j
    unfold wdL
    by_cases h : f (q + j) = (wTby.getD i []).getD j 0
    · rw [if_pos h, ih]
      constructor
      · intro g k h1 h2
        by_cases e : k = j
        · rw [e]; exact h
        · exact g k (by omega) (by omega)
      · intro g k h1 h2
        exact g k (by omega) (by omega)
    · rw [if_neg h]
      exact ⟨fun e => absurd e Bool.false_ne_true, fun g => absurd (g j (Nat.le_refl _) (by omega)) h⟩
theorem wIs_spec (f : Nat → Int32) (q a i : Nat) : wIs f q a i = true ↔ a = q + wTlen.getD i 0 ∧ ∀ k, k < wTlen.getD i 0 → f (q + k) = (wTby.getD i []).getD k 0 := by
  unfold wIs
  by_cases h : a = q + wTlen.getD i 0
  · rw [if_pos h, wdL_spec]
    exact ⟨fun g => ⟨h, fun k hk => g k (Nat.zero_le _) (by omega)⟩, fun g k _ hk => g.2 k (by omega)⟩
  · rw [if_neg h]
    exact ⟨fun e => absurd e Bool.false_ne_true, fun g => absurd g.1 h⟩
theorem wT_inj : ∀ i, i < 13 → ∀ j, j < 13 → wTlen.getD i 0 = wTlen.getD j 0 → ((List.range (wTlen.getD i 0)).all fun k => (wTby.getD i []).getD k 0 == (wTby.getD j []).getD k 0) = true → i = j := by decide +kernel
theorem wIs_inj {f : Nat → Int32} {q a i j : Nat} (hi : i < 13) (hj : j < 13) (h1 : wIs f q a i = true) (h2 : wIs f q a j = true) : i = j := by
  rw [wIs_spec] at h1 h2
  have hl : wTlen.getD i 0 = wTlen.getD j 0 := by omega
  refine wT_inj i hi j hj hl ?_
  rw [List.all_eq_true]
  intro k hk
  have hk := List.mem_range.mp hk
  rw [beq_iff_eq, ← h1.2 k hk, h2.2 k (by omega)]
theorem nm_cases (f : Nat → Int32) (q a : Nat) : (∃ i, 1 ≤ i ∧ i ≤ 6 ∧ wIs f q a i = true ∧ nmOf f q a = nI (i - 1)) ∨ ((∀ i, 1 ≤ i → i ≤ 6 → ¬ wIs f q a i = true) ∧ nmOf f q a = -1) := by
  unfold nmOf
  by_cases h1 : wIs f q a 1 = true
  · exact Or.inl ⟨1, by decide, by decide, h1, by rw [if_pos h1]; rfl⟩
  by_cases h2 : wIs f q a 2 = true
  · exact Or.inl ⟨2, by decide, by decide, h2, by rw [if_neg h1, if_pos h2]; rfl⟩
  by_cases h3 : wIs f q a 3 = true
  · exact Or.inl ⟨3, by decide, by decide, h3, by rw [if_neg h1, if_neg h2, if_pos h3]; rfl⟩
  by_cases h4 : wIs f q a 4 = true
  · exact Or.inl ⟨4, by decide, by decide, h4, by rw [if_neg h1, if_neg h2, if_neg h3, if_pos h4]; rfl⟩
  by_cases h5 : wIs f q a 5 = true
  · exact Or.inl ⟨5, by decide, by decide, h5, by rw [if_neg h1, if_neg h2, if_neg h3, if_neg h4, if_pos h5]; rfl⟩
  by_cases h6 : wIs f q a 6 = true
  · exact Or.inl ⟨6, by decide, by decide, h6, by rw [if_neg h1, if_neg h2, if_neg h3, if_neg h4, if_neg h5, if_pos h6]; rfl⟩
  refine Or.inr ⟨fun i a1 a2 => ?_, by rw [if_neg h1, if_neg h2, if_neg h3, if_neg h4, if_neg h5, if_neg h6]⟩
  have hc : i = 1 ∨ i = 2 ∨ i = 3 ∨ i = 4 ∨ i = 5 ∨ i = 6 := by omega
  rcases hc with rfl | rfl | rfl | rfl | rfl | rfl
  · exact h1
  · exact h2
  · exact h3
  · exact h4
  · exact h5
  · exact h6
theorem kw_cases (f : Nat → Int32) (q a : Nat) : (∃ i, 7 ≤ i ∧ i ≤ 12 ∧ wIs f q a i = true ∧ kwOf f q a = nI (i - 4)) ∨ ((∀ i, 7 ≤ i → i ≤ 12 → ¬ wIs f q a i = true) ∧ kwOf f q a = -1) := by
  unfold kwOf
  by_cases h7 : wIs f q a 7 = true
  · exact Or.inl ⟨7, by decide, by decide, h7, by rw [if_pos h7]; rfl⟩
  by_cases h8 : wIs f q a 8 = true
  · exact Or.inl ⟨8, by decide, by decide, h8, by rw [if_neg h7, if_pos h8]; rfl⟩
  by_cases h9 : wIs f q a 9 = true
  · exact Or.inl ⟨9, by decide, by decide, h9, by rw [if_neg h7, if_neg h8, if_pos h9]; rfl⟩
  by_cases h10 : wIs f q a 10 = true
  · exact Or.inl ⟨10, by decide, by decide, h10, by rw [if_neg h7, if_neg h8, if_neg h9, if_pos h10]; rfl⟩
  by_cases h11 : wIs f q a 11 = true
  · exact Or.inl ⟨11, by decide, by decide, h11, by rw [if_neg h7, if_neg h8, if_neg h9, if_neg h10, if_pos h11]; rfl⟩
  by_cases h12 : wIs f q a 12 = true
  · exact Or.inl ⟨12, by decide, by decide, h12, by rw [if_neg h7, if_neg h8, if_neg h9, if_neg h10, if_neg h11, if_pos h12]; rfl⟩
  refine Or.inr ⟨fun i a1 a2 => ?_, by rw [if_neg h7, if_neg h8, if_neg h9, if_neg h10, if_neg h11, if_neg h12]⟩
  have hc : i = 7 ∨ i = 8 ∨ i = 9 ∨ i = 10 ∨ i = 11 ∨ i = 12 := by omega
  rcases hc with rfl | rfl | rfl | rfl | rfl | rfl
  · exact h7
  · exact h8
  · exact h9
  · exact h10
  · exact h11
  · exact h12
/-- the TOKEN is the word i -/
def wq (i : Nat) (tok pc : Int32) : Prop := if i ≤ 6 then tok = 2 ∧ pc = -1 - nI (i - 1) else tok = nI (i - 4)
theorem nI_small {n : Nat} (h : n < 100) : (nI n).toInt = (n : Int) := nI_toInt (by omega)
theorem lxW_word {f : Nat → Int32} {q a i : Nat} (h1 : 1 ≤ i) (h2 : i < 13) : wIs f q a i = true ↔ wq i (lxW f q a).2.2.1 (lxW f q a).2.2.2 := by
  unfold wq lxW
  rcases nm_cases f q a with ⟨j, a1, a2, a3, a4⟩ | ⟨a1, a2⟩
  · have hn : ¬ nmOf f q a = -1 := by
      rw [a4]
      intro e
      have := congrArg Int32.toInt e
      rw [nI_small (by omega)] at this
      exact absurd this (by simp only [Int32.reduceToInt]; omega)
    rw [if_neg hn]
    by_cases c : i ≤ 6
    · rw [if_pos c]
      constructor
      · intro h
        obtain rfl := wIs_inj (by omega) (by omega) h a3
        exact ⟨rfl, by rw [a4]⟩
      · intro h
        have e : nI (j - 1) = nI (i - 1) := by
          have h3 : -1 - nmOf f q a = -1 - nI (i - 1) := h.2
          rw [a4] at h3
          have h4 := congrArg Int32.toInt h3
          rw [Int32.toInt_sub, Int32.toInt_sub, nI_small (by omega), nI_small (by omega)] at h4
          simp only [Int.bmod, Int32.reduceToInt] at h4
          exact (nI_eq (by omega) (by omega)).mpr (by omega)
        have e2 := (nI_eq (a := j - 1) (b := i - 1) (by omega) (by omega)).mp e
        rw [show i = j by omega]
        exact a3
    · rw [if_neg c]
      constructor
      · intro h
        have := wIs_inj (by omega) (by omega) h a3
        omega
      · intro h
        have h4 := congrArg Int32.toInt (show (2 : Int32) = nI (i - 4) from h)
        rw [nI_small (by omega)] at h4
        exact absurd h4 (by simp only [Int32.reduceToInt]; omega)
  · rw [if_pos a2]
    by_cases c : i ≤ 6
    · rw [if_pos c]
      constructor
      · intro h
        exact absurd h (a1 i h1 c)
      · intro h
        exact absurd (Or.inr h.1) (kwOf_n f q a)
    · rw [if_neg c]
      simp only []
      rcases kw_cases f q a with ⟨j, b1, b2, b3, b4⟩ | ⟨b1, b2⟩
      · rw [b4]
        constructor
        · intro h
          obtain rfl := wIs_inj (by omega) (by omega) h b3
          rfl
        · intro h
          have e2 := (nI_eq (a := j - 4) (b := i - 4) (by omega) (by omega)).mp h
          rw [show i = j by omega]
          exact b3
      · rw [b2]
        constructor
        · intro h
          exact absurd h (b1 i (by omega) (by omega))
        · intro h
          have h4 := congrArg Int32.toInt h
          rw [nI_small (by omega)] at h4
          exact absurd h4 (by simp only [Int32.reduceToInt]; omega)
theorem wq_not {i : Nat} (h1 : 1 ≤ i) (h2 : i < 13) {tok pc : Int32} (h : tok = 0 ∨ tok = 1 ∨ tok = -1 ∨ pSign tok = true) : ¬ wq i tok pc := by
  intro hw
  have key : tok = 2 ∨ tok = 3 ∨ tok = 4 ∨ tok = 5 ∨ tok = 6 ∨ tok = 7 ∨ tok = 8 := by
    unfold wq at hw
    by_cases c : i ≤ 6
    · rw [if_pos c] at hw
      exact Or.inl hw.1
    · rw [if_neg c] at hw
      have hc : i = 7 ∨ i = 8 ∨ i = 9 ∨ i = 10 ∨ i = 11 ∨ i = 12 := by omega
      rcases hc with rfl | rfl | rfl | rfl | rfl | rfl
      · exact Or.inr (Or.inl hw)
      · exact Or.inr (Or.inr (Or.inl hw))
      · exact Or.inr (Or.inr (Or.inr (Or.inl hw)))
      · exact Or.inr (Or.inr (Or.inr (Or.inr (Or.inl hw))))
      · exact Or.inr (Or.inr (Or.inr (Or.inr (Or.inr (Or.inl hw)))))
      · exact Or.inr (Or.inr (Or.inr (Or.inr (Or.inr (Or.inr hw)))))
  rcases key with rfl | rfl | rfl | rfl | rfl | rfl | rfl <;> exact absurd h (by decide)
theorem tok_word {f : Nat → Int32} {z q i : Nat} (h1 : 1 ≤ i) (h2 : i < 13) : (kdF f z q = 1 ∧ wIs f q (hrF f z q) i = true) ↔ wq i (lxP f z q).2.2.1 (lxP f z q).2.2.2 := by
  unfold kdF hrF lxP
  by_cases c1 : z ≤ q
  · rw [if_pos c1, if_pos c1, if_pos c1]
    exact ⟨fun e => absurd e.1 (by decide), fun e => absurd e (wq_not h1 h2 (Or.inl rfl))⟩
  · rw [if_neg c1, if_neg c1, if_neg c1]
    by_cases c2 : 97 ≤ f q ∧ f q ≤ 122
    · rw [if_pos c2, if_pos c2, if_pos c2, ← lxW_word h1 h2]
      exact ⟨fun e => e.2, fun e => ⟨by trivial, e⟩⟩
    · rw [if_neg c2, if_neg c2, if_neg c2]
      by_cases c3 : 48 ≤ f q ∧ f q ≤ 57
      · rw [if_pos c3, if_pos c3, if_pos c3]
        unfold lxD
        by_cases c4 : lxDg f (z - q) q - q ≤ 4
        · rw [if_pos c4, if_pos c4]
          exact ⟨fun e => absurd e.1 (by decide), fun e => absurd e (wq_not h1 h2 (Or.inr (Or.inl rfl)))⟩
        · rw [if_neg c4, if_neg c4]
          exact ⟨fun e => absurd e.1 (by decide), fun e => absurd e (wq_not h1 h2 (Or.inr (Or.inr (Or.inl rfl))))⟩
      · rw [if_neg c3, if_neg c3, if_neg c3]
        by_cases c5 : pSign (f q) = true
        · rw [if_pos c5, if_pos c5, if_pos c5]
          exact ⟨fun e => absurd e.1 (by decide), fun e => absurd e (wq_not h1 h2 (Or.inr (Or.inr (Or.inr c5))))⟩
        · rw [if_neg c5, if_neg c5, if_neg c5]
          exact ⟨fun e => absurd e.1 (by decide), fun e => absurd e (wq_not h1 h2 (Or.inr (Or.inr (Or.inl rfl))))⟩
theorem kw_val (f : Nat → Int32) (q a : Nat) : kwOf f q a = -1 ∨ kwOf f q a = 3 ∨ kwOf f q a = 4 ∨ kwOf f q a = 5 ∨ kwOf f q a = 6 ∨ kwOf f q a = 7 ∨ kwOf f q a = 8 := by
  unfold kwOf
  repeat' split
  all_goals decide
theorem tok_sign {f : Nat → Int32} {z q : Nat} {v : Int32} (hv : pSign v = true) : (kdF f z q = 3 ∧ f q = v) ↔ (lxP f z q).2.2.1 = v := by
  have n0 : ¬ (0 : Int32) = v := fun e => by rw [← e] at hv; exact absurd hv (by decide)
  have n1 : ¬ (1 : Int32) = v := fun e => by rw [← e] at hv; exact absurd hv (by decide)
  have n2 : ¬ (2 : Int32) = v := fun e => by rw [← e] at hv; exact absurd hv (by decide)
  have nm : ¬ (-1 : Int32) = v := fun e => by rw [← e] at hv; exact absurd hv (by decide)
  unfold kdF lxP
  by_cases c1 : z ≤ q
  · rw [if_pos c1, if_pos c1]
    exact ⟨fun e => absurd e.1 (by decide), fun e => absurd e n0⟩
  · rw [if_neg c1, if_neg c1]
    by_cases c2 : 97 ≤ f q ∧ f q ≤ 122
    · rw [if_pos c2, if_pos c2]
      refine ⟨fun e => absurd e.1 (by decide), fun e => ?_⟩
      unfold lxW at e
      by_cases c3 : nmOf f q (lxWd f (z - q) q) = -1
      · rw [if_pos c3] at e
        have e2 : kwOf f q (lxWd f (z - q) q) = v := e
        rcases kw_val f q (lxWd f (z - q) q) with h | h | h | h | h | h | h <;> rw [h] at e2 <;> rw [← e2] at hv <;> exact absurd hv (by decide)
      · rw [if_neg c3] at e
        exact absurd e n2
    · rw [if_neg c2, if_neg c2]
      by_cases c3 : 48 ≤ f q ∧ f q ≤ 57
      · rw [if_pos c3, if_pos c3]
        unfold lxD
        by_cases c4 : lxDg f (z - q) q - q ≤ 4
        · rw [if_pos c4, if_pos c4]
          exact ⟨fun e => absurd e.1 (by decide), fun e => absurd e n1⟩
        · rw [if_neg c4, if_neg c4]
          exact ⟨fun e => absurd e.1 (by decide), fun e => absurd e nm⟩
      · rw [if_neg c3, if_neg c3]
        by_cases c5 : pSign (f q) = true
        · rw [if_pos c5]
          simp only [if_pos c5]
          exact ⟨fun e => e.2, fun e => ⟨by trivial, e⟩⟩
        · rw [if_neg c5]
          simp only [if_neg c5]
          exact ⟨fun e => absurd e.1 (by decide), fun e => absurd e nm⟩
theorem tok_num {f : Nat → Int32} {z q : Nat} : (kdF f z q = 2 ↔ (lxP f z q).2.2.1 = 1) ∧ (kdF f z q = 2 → (lxP f z q).2.2.2 = lxNv f (z - q) q 0) := by
  unfold kdF lxP
  by_cases c1 : z ≤ q
  · rw [if_pos c1, if_pos c1]
    exact ⟨⟨fun e => absurd e (by decide), fun e => absurd (show (0 : Int32) = 1 from e) (by decide)⟩, fun e => absurd e (by decide)⟩
  · rw [if_neg c1, if_neg c1]
    by_cases c2 : 97 ≤ f q ∧ f q ≤ 122
    · rw [if_pos c2, if_pos c2]
      refine ⟨⟨fun e => absurd e (by decide), fun e => ?_⟩, fun e => absurd e (by decide)⟩
      unfold lxW at e
      by_cases c3 : nmOf f q (lxWd f (z - q) q) = -1
      · rw [if_pos c3] at e
        exact absurd (Or.inl e) (kwOf_n _ _ _)
      · rw [if_neg c3] at e
        exact absurd (show (2 : Int32) = 1 from e) (by decide)
    · rw [if_neg c2, if_neg c2]
      by_cases c3 : 48 ≤ f q ∧ f q ≤ 57
      · rw [if_pos c3, if_pos c3]
        unfold lxD
        by_cases c4 : lxDg f (z - q) q - q ≤ 4
        · rw [if_pos c4, if_pos c4]
          exact ⟨⟨fun _ => rfl, fun _ => rfl⟩, fun _ => rfl⟩
        · rw [if_neg c4, if_neg c4]
          exact ⟨⟨fun e => absurd e (by decide), fun e => absurd (show (-1 : Int32) = 1 from e) (by decide)⟩, fun e => absurd e (by decide)⟩
      · rw [if_neg c3, if_neg c3]
        by_cases c5 : pSign (f q) = true
        · rw [if_pos c5]
          simp only [if_pos c5]
          exact ⟨⟨fun e => absurd e (by decide), fun e => absurd (Or.inl e) (pSign_n c5)⟩, fun e => absurd e (by decide)⟩
        · rw [if_neg c5]
          simp only [if_neg c5]
          exact ⟨⟨fun e => absurd e (by decide), fun e => absurd e (by decide)⟩, fun e => absurd e (by decide)⟩
theorem hr_at {f : Nat → Int32} {z q : Nat} (h : ¬ (lxP f z q).2.2.1 = -1) : hrF f z q = (lxP f z q).1 := by
  revert h
  unfold hrF lxP
  by_cases c1 : z ≤ q
  · rw [if_pos c1, if_pos c1]
    exact fun _ => rfl
  · rw [if_neg c1, if_neg c1]
    by_cases c2 : 97 ≤ f q ∧ f q ≤ 122
    · rw [if_pos c2, if_pos c2]
      intro _
      unfold lxW
      split <;> rfl
    · rw [if_neg c2, if_neg c2]
      by_cases c3 : 48 ≤ f q ∧ f q ≤ 57
      · rw [if_pos c3, if_pos c3]
        intro _
        unfold lxD
        split <;> rfl
      · rw [if_neg c3, if_neg c3]
        by_cases c5 : pSign (f q) = true
        · intro _
          rw [if_pos c5]
        · intro e
          exact absurd (show (if pSign (f q) = true then f q else -1) = -1 by rw [if_neg c5]) e
