theorem mDiv_gcd : ∀ q, q < 8 → 1 ≤ q → ∀ s, s < 694 → mDiv (nI s) (nI q) (q - 1) = Nat.gcd s q := by decide +kernel
