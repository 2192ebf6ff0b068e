theorem mDiv_gcd : ∀ q, q < 8 → 1 ≤ q → ∀ s, s < 694 → mDiv (nI s) (nI q) (q - 1) = Nat.gcd s q := by decide +kernel
theorem mSum_nI {y : Nat → Int32} (hy : ∀ k, k < 7 → 0 ≤ y k ∧ y k ≤ 99) : ∀ (n t S : Nat), t + n ≤ 7 → S ≤ 99 * t → ∃ S', mSum y t n (nI S) = nI S' ∧ S' ≤ 99 * (t + n) := by
  intro n
  induction n with
  | zero => exact fun t S _ h => ⟨S, rfl, by omega⟩
  | succ n ih =>
    intro t S ht hS
    obtain ⟨k, hk, e⟩ := what_lt (n := 99) (hy t (by omega)) (by decide)
    obtain ⟨S', h1, h2⟩ := ih (t + 1) (S + k) (by omega) (by omega)
    refine ⟨S', ?_, by omega⟩
    rw [mSum, e, nI_add]
    exact h1
/-- Euclid's loop on numbers -/
def eUc : Nat → Nat → Nat → Nat
  | 0, a, _ => a
  | n + 1, a, b => if b = 0 then a else eUc n b (a % b)
theorem eUc_gcd : ∀ (n a b : Nat), b < n → eUc n a b = Nat.gcd a b := by
  intro n
  induction n with
  | zero => intro a b h; omega
  | succ n ih =>
    intro a b h
    rw [eUc]
    by_cases e : b = 0
    · rw [if_pos e, e, Nat.gcd_zero_right]
    · have hm := Nat.mod_lt a (show 0 < b by omega)
      rw [if_neg e, ih b (a % b) (by omega), Nat.gcd_comm b, ← Nat.gcd_rec, Nat.gcd_comm]
