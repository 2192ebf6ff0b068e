theorem wInj_of {cy : Nat → ClassId} {ad : Nat → Nat → Nat} {G : Nat} {A : Nat → Prop} {M : wS} (h : va_D A (wL cy ad G M)) : wInj ad G ∧ ∀ q, wA ad G q → A q := by
  refine ⟨fun g i g' i' h1 h2 e => ?_, ?_⟩
  · obtain ⟨k, hk⟩ := wL_at h1
    obtain ⟨k', hk'⟩ := wL_at h2
    have e2 := h.1 k k' _ _ (wL_get hk) (wL_get hk') e
    subst e2
    exact Prod.mk.inj (Option.some.inj (hk.symm.trans hk'))
  · rintro q ⟨g, i, hg, rfl⟩
    obtain ⟨k, hk⟩ := wL_at hg
    exact h.2 k _ (wL_get hk)
theorem wEn_ad {D : va_G} {cy : Nat → ClassId} {ad adS : Nat → Nat → Nat} {A : Nat → Prop} {U : State} {H : Heap} (h : ∀ g, 60 ≤ g → ad g = adS g) (hE : wEn D cy adS A U H) : wEn D cy ad A U H := by
  unfold wEn wStr at *
  rw [h 60 (by decide), h 61 (by decide), h 62 (by decide)]
  exact hE
theorem vp_cell_eq {cA : ClassId} {n : Nat} {f f' : Nat → Option Nat} (hf : ∀ j, j < n → f j = f' j) : vp_cell cA (n, .inr (.inr (.inr (.inr f)))) = vp_cell cA (n, .inr (.inr (.inr (.inr f')))) := by
  have e : (fun j : Fin n => va_rf (f j.val)) = fun j : Fin n => va_rf (f' j.val) := funext fun j => by rw [hf j.val j.isLt]
  rw [vp_cell_q, vp_cell_q]
  unfold arrV
  rw [e]
section S95
variable {p : Program} {l : Launch} {e : Env} {R : Room} {s : State} {m : MethodId} {args : Array Value} {below : List Frame} {meth : Method} {c : Code} {nL : Nat} {D : va_G} {cy : Nat → ClassId} {ad : Nat → Nat → Nat} {G : Nat} {A : Nat → Prop} {cells slots : Nat} {Q : State → Prop} {pc : Nat} {lv : List (Nat × Value)} {st : List Value} {W0 L : va_W} {M : wS}
theorem Y_sameq (q0 : Nat) {a n : Nat} {cA : ClassId} {f f' : Nat → Option Nat} (ha : L[q0]? = some (a, .inl (cA, n, .inr (.inr (.inr (.inr f)))))) (hf : ∀ j, j < n → f j = f' j) (k : Y p l e R s m args below meth c nL D A Q cells slots pc lv st W0 (L.set q0 (a, .inl (cA, n, .inr (.inr (.inr (.inr f'))))))) : Y p l e R s m args below meth c nL D A Q cells slots pc lv st W0 L := by
  intro H locs ls h1 h2 h3 h4
  refine k H locs ls ?_ ?_ h3 h4
  · rw [← yS]
    intro j q hq
    by_cases e : j = W0.length + q0
    · subst e
      have hl := (List.getElem?_eq_some_iff.mp (yA (W0 := W0) ha)).1
      rw [List.getElem?_set_self hl] at hq
      cases hq
      have := h1 _ _ (yA (W0 := W0) ha)
      show H[a]? = some (vp_cell cA (n, _))
      rw [← vp_cell_eq hf]
      exact this
    · rw [List.getElem?_set_ne (Ne.symm e)] at hq
      exact h1 j q hq
  · rw [← yS]
    exact h2.set (yA ha)
theorem Y_toV (hW : ∀ H, va_P D classes (W0 ++ L) H → va_P D classes (wL cy ad G M) H) (hD : va_D A (W0 ++ L) → va_D A (wL cy ad G M)) (k : wInj ad G → (∀ q, wA ad G q → A q) → V p l e R s m args below meth c nL D cy ad G A cells slots Q pc lv st M) : Y p l e R s m args below meth c nL D A Q cells slots pc lv st W0 L :=
  fun H locs ls h1 h2 h3 h4 => k (wInj_of (hD h2)).1 (wInj_of (hD h2)).2 H locs ls (hW H h1) h3 h4
end S95
