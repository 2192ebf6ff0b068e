section S9c
variable {l : Launch} {D : va_G} {cy : Nat → ClassId} {ad : Nat → Nat → Nat} {G d : Nat}
theorem p_buy (hG : 56 ≤ G) (hd : 47 ≤ d) {M : wS} (hz : RZ M) (a b : Int32) : Both l D cy ad G d yX9_buy cX9_buy 4 [.ref (ad 0 0), .int a, .int b] yX10_buy cX10_buy 4 [.ref (ad 30 0), .int a, .int b] M := by
  obtain ⟨nb, nt, tc, z, bo, r, h⟩ := hz
  have c1 := h.1
  obtain ⟨e1, e2, e3, hC⟩ := h.rC
  obtain ⟨hbo, hU⟩ := h.uO
  have hP := hC.1
  refine ⟨_, c_X9_buy (Nat.le_trans (by decide) hG) (by omega) M hP a b, fun x M1 e => ?_⟩
  obtain ⟨M2, k1, k2, k3⟩ := e
  have hm : mE M M1 := by
    have hB : ∀ v p, mE M (kBuyM M M2 v p) := fun v p g i k g1 g2 g3 => by
      rw [kBuyM, mset_at, if_neg (by omega), mset_at, if_neg (by omega)]
      exact k1.mE g i k g1 g2 g3
    by_cases c : (0 ≤ a ∧ a < nI nb) ∧ kTied M nt b
    · have := congrArg Prod.snd (k2 c)
      by_cases p : 0 ≤ kPrice (kTieM M nt b) r e1 e2 a.toNatClampNeg (M.1 28 0 a.toNatClampNeg) 0
      · rw [if_pos p] at this
        rw [show M1 = _ from this]
        exact hB _ _
      · rw [if_neg p] at this
        rw [show M1 = _ from this]
        exact k1.mE
    · have := congrArg Prod.snd (k3 c)
      rw [show M1 = _ from this]
      exact k1.mE
  refine Ctr.imp (r_buy hG (by omega) (hC.up hm) hU a b) (fun x2 M2' g => ?_)
  obtain ⟨M3, g1, g2, g3⟩ := g
  by_cases c : (0 ≤ a ∧ a < nI nb) ∧ kTied M nt b
  · have q1 := k2 c
    have q2 := g2 c
    generalize kPrice (kTieM M nt b) r e1 e2 a.toNatClampNeg (M.1 28 0 a.toNatClampNeg) 0 = p at q1 q2
    by_cases hp : 0 ≤ p
    · rw [if_pos hp] at q1 q2
      obtain ⟨x1, m1⟩ := Prod.mk.inj q1
      obtain ⟨x2', m2⟩ := Prod.mk.inj q2
      subst x1 x2' m1 m2
      refine ⟨rfl, ?_⟩
      obtain ⟨S, s1, rfl, s3⟩ := sub_nI hU.2.2 (by rw [← hU.1]; exact c.2.2.1)
      have hS : S < 2 ^ nt := Nat.lt_of_le_of_lt (by rw [← s3]; exact Nat.and_le_right) hU.2.1
      have hv : M.1 26 0 3 ||| nI S = nI (bo ||| S) := by rw [h.2.1.1.1]; exact or_nI bo hbo S s1
      have ht : (kBuyM M M2 (nI S) x2).1 30 0 20 = M.1 26 0 6 := by rw [hm 30 0 20 (by decide) (by omega) (by omega)]; exact h.2.2.2.2.1.2
      refine ⟨nb, nt, tc, z, bo ||| S, r, h.bought (Nat.or_lt_two_pow h.2.1.1.2 hS) (fun g i k h1 h2 h3 => ?_) (fun g i k h1 h2 h3 h4 => ?_) ?_ ?_ ?_⟩
      · rw [mset_at, if_neg (by omega), mset_at, if_neg (by omega), g1.cE g i k h1 h2, kBuyM, mset_at, if_neg (by omega), mset_at, if_neg (by omega)]
        exact k1.cE g i k h1 h2
      · rw [mset_at, if_neg (by omega), mset_at, if_neg (by omega), g1.mE g i k h1 h2 h3]
        exact hm g i k h1 h2 h3
      · rw [mset_at, if_neg (by omega), mset_at, if_neg (by omega), g1.cE 26 0 3 (by decide) (Or.inl ⟨by decide, by omega⟩), kBuyM, mset_at, if_neg (by omega), mset_at, if_pos ⟨rfl, rfl, rfl⟩]
        exact hv
      · rw [mset_at, if_neg (by omega), mset_at, if_pos ⟨rfl, rfl, rfl⟩]
        exact hv
      · rw [mset_at, if_pos ⟨rfl, rfl, rfl⟩, mset_at, if_neg (by omega), mset_at, if_neg (by omega), g1.cE 26 0 6 (by decide) (Or.inl ⟨by decide, by omega⟩), ht, kBuyM, mset_at, if_pos ⟨rfl, rfl, rfl⟩]
    · rw [if_neg hp] at q1 q2
      obtain ⟨x1, m1⟩ := Prod.mk.inj q1
      obtain ⟨x2', m2⟩ := Prod.mk.inj q2
      subst x1 x2' m1 m2
      exact ⟨rfl, h.ask k1 g1⟩
  · obtain ⟨x1, m1⟩ := Prod.mk.inj (k3 c)
    obtain ⟨x2', m2⟩ := Prod.mk.inj (g3 c)
    subst x1 x2' m1 m2
    exact ⟨rfl, h.ask k1 g1⟩
end S9c
