/-! one reading, two kinds of values: states are the same, values correspond, code fits into the text's bytes -/
def pok (z : Nat) (q : rS) : Prop := q.2.1 ≤ q.1 ∧ q.1 ≤ z ∧ (0 < q.2.2.1 → q.2.1 < q.1) ∧ (q.2.2.1 = 1 ∨ q.2.2.1 = 2 → -6 ≤ q.2.2.2.1)
theorem lxWd_p {f : Nat → Int32} {n a : Nat} (hn : 0 < n) (h : 97 ≤ f a ∧ f a ≤ 122) : a < lxWd f n a := by
  cases n with
  | zero => omega
  | succ n =>
    unfold lxWd
    rw [if_pos h]
    exact (lxWd_r f n (a + 1)).1
theorem lxDg_p {f : Nat → Int32} {n a : Nat} (hn : 0 < n) (h : 48 ≤ f a ∧ f a ≤ 57) : a < lxDg f n a := by
  cases n with
  | zero => omega
  | succ n =>
    unfold lxDg
    rw [if_pos h]
    exact (lxDg_r f n (a + 1)).1
theorem nmOf_r (f : Nat → Int32) (q a : Nat) (h : ¬ nmOf f q a = -1) : 0 ≤ nmOf f q a ∧ nmOf f q a ≤ 5 := by
  revert h
  unfold nmOf
  repeat' split
  all_goals decide
theorem dig_step {v w : Int32} {k : Nat} (hk : k ≤ 3) (hv : 0 ≤ v.toInt ∧ v.toInt < 10 ^ k) (hw : 48 ≤ w ∧ w ≤ 57) : 0 ≤ (10 * v + w - 48).toInt ∧ (10 * v + w - 48).toInt < 10 ^ (k + 1) ∧ (10 * v + w - 48).toInt = 10 * v.toInt + w.toInt - 48 := by
  have h1 : (10 : Int) ^ k ≤ 1000 := by
    match k, hk with
    | 0, _ => decide
    | 1, _ => decide
    | 2, _ => decide
    | 3, _ => decide
  have h2 : (48 : Int) ≤ w.toInt ∧ w.toInt ≤ 57 := ⟨Int32.le_iff_toInt_le.mp hw.1, Int32.le_iff_toInt_le.mp hw.2⟩
  have h3 : (10 * v + w - 48).toInt = 10 * v.toInt + w.toInt - 48 := by
    rw [Int32.toInt_sub, Int32.toInt_add, Int32.toInt_mul]
    simp only [Int.bmod, Int32.reduceToInt]
    omega
  rw [h3, Int.pow_succ]
  omega
theorem lxNv_r (f : Nat → Int32) : ∀ (n a k : Nat) (v : Int32), (lxDg f n a - a) + k ≤ 4 → 0 ≤ v.toInt ∧ v.toInt < 10 ^ k → 0 ≤ (lxNv f n a v).toInt ∧ (lxNv f n a v).toInt < 10000 := by
  intro n
  induction n with
  | zero =>
    intro a k v hk hv
    have h1 : (10 : Int) ^ k ≤ 10000 := by
      have h4 : k ≤ 4 := by omega
      match k, h4 with
      | 0, _ => decide
      | 1, _ => decide
      | 2, _ => decide
      | 3, _ => decide
      | 4, _ => decide
    unfold lxNv
    omega
  | succ n ih =>
    intro a k v hk hv
    by_cases h : 48 ≤ f a ∧ f a ≤ 57
    · rw [lxDg, if_pos h] at hk
      rw [lxNv, if_pos h]
      have hr := lxDg_r f n (a + 1)
      have hd := dig_step (k := k) (by omega) hv h
      exact ih (a + 1) (k + 1) _ (by omega) ⟨hd.1, hd.2.1⟩
    · rw [lxDg, if_neg h] at hk
      rw [lxNv, if_neg h]
      have h1 : (10 : Int) ^ k ≤ 10000 := by
        have h4 : k ≤ 4 := by omega
        match k, h4 with
        | 0, _ => decide
        | 1, _ => decide
        | 2, _ => decide
        | 3, _ => decide
        | 4, _ => decide
      omega
theorem lxP_ok (f : Nat → Int32) {z p : Nat} (hp : p ≤ z) : (lxP f z p).2.1 = p ∧ p ≤ (lxP f z p).1 ∧ (lxP f z p).1 ≤ z ∧ (0 < (lxP f z p).2.2.1 → p < (lxP f z p).1) ∧ ((lxP f z p).2.2.1 = 1 ∨ (lxP f z p).2.2.1 = 2 → -6 ≤ (lxP f z p).2.2.2) := by
  have h2 := lxWd_r f (z - p) p
  have h3 := lxDg_r f (z - p) p
  unfold lxP
  by_cases c1 : z ≤ p
  · rw [if_pos c1]
    exact ⟨rfl, Nat.le_refl _, hp, fun e => absurd e (show ¬ (0 : Int32) < 0 by decide), fun e => absurd e z0_n⟩
  · rw [if_neg c1]
    by_cases c2 : 97 ≤ f p ∧ f p ≤ 122
    · rw [if_pos c2]
      have h4 := lxWd_p (n := z - p) (by omega) c2
      unfold lxW
      by_cases c3 : nmOf f p (lxWd f (z - p) p) = -1
      · rw [if_pos c3]
        exact ⟨rfl, h2.1, by simp only []; omega, fun _ => h4, fun e => absurd e (kwOf_n _ _ _)⟩
      · rw [if_neg c3]
        have h5 := nmOf_r _ _ _ c3
        refine ⟨rfl, h2.1, by simp only []; omega, fun _ => h4, fun _ => ?_⟩
        generalize nmOf f p (lxWd f (z - p) p) = v at h5 ⊢
        simp only []
        (simp only [i32_eq, Int32.le_iff_toInt_le, Int32.lt_iff_toInt_lt, Int32.not_le, Int32.not_lt, Int32.toInt_add, Int32.toInt_sub, Int32.toInt_mul, Int32.toInt_neg, Int32.toInt_div, tdv2, tdv4, tdv10, tdv52, tdv100, nI_T, apply_ite Int32.toInt, Int.bmod, Int32.reduceToInt] at *; omega)
    · rw [if_neg c2]
      by_cases c4 : 48 ≤ f p ∧ f p ≤ 57
      · rw [if_pos c4]
        have h4 := lxDg_p (n := z - p) (by omega) c4
        unfold lxD
        by_cases c5 : lxDg f (z - p) p - p ≤ 4
        · rw [if_pos c5]
          refine ⟨rfl, h3.1, by simp only []; omega, fun _ => h4, fun _ => ?_⟩
          have h6 := lxNv_r f (z - p) p 0 0 (by omega) ⟨by decide, by decide⟩
          exact Int32.le_iff_toInt_le.mpr (Int.le_trans (by decide) h6.1)
        · rw [if_neg c5]
          exact ⟨rfl, h3.1, by simp only []; omega, fun _ => h4, fun e => absurd e m1_n⟩
      · rw [if_neg c4]
        refine ⟨rfl, by simp only []; omega, by simp only []; omega, fun _ => by simp only []; omega, fun e => absurd e ?_⟩
        by_cases c6 : pSign (f p) = true
        · simp only [if_pos c6]
          exact pSign_n c6
        · simp only [if_neg c6]
          exact m1_n
theorem nx_ok (f : Nat → Int32) {z : Nat} {q : rS} (h : pok z q) : pok z (nxQ f z q) ∧ q.1 ≤ (nxQ f z q).2.1 := by
  have h1 := lxSk_r f (z - q.1) q.1
  have h0 := h.2.1
  have h2 := lxP_ok f (z := z) (p := lxSk f (z - q.1) q.1) (by omega)
  unfold nxQ lx pok
  simp only []
  rw [h2.1]
  exact ⟨⟨h2.2.1, h2.2.2.1, h2.2.2.2.1, h2.2.2.2.2⟩, h1.1⟩
theorem rf_ok {z : Nat} {q : rS} (hz : z ≤ 160) (h : pok z q) : pok z (rfQ q) ∧ ¬ (rfQ q).2.2.2.2 = -1 := by
  refine ⟨⟨h.1, h.2.1, fun e => absurd e (show ¬ (0 : Int32) < -1 by decide), fun e => absurd e m1_n⟩, ?_⟩
  have h1 := h.1
  have h2 := h.2.1
  unfold rfQ
  simp only []
  split
  · intro e
    have h3 := nI_pos' (n := q.2.1) (by omega)
    rw [e] at h3
    exact absurd h3 (by decide)
  · assumption
theorem ex_ok (f : Nat → Int32) {z : Nat} {q : rS} (hz : z ≤ 160) (w : Int32) (h : pok z q) : pok z (exQ f z w q) ∧ q.2.1 ≤ (exQ f z w q).2.1 ∧ ((exQ f z w q).2.2.2.2 = -1 → q.2.2.2.2 = -1) := by
  unfold exQ
  by_cases c : q.2.2.1 = w
  · rw [if_pos c]
    have h1 := nx_ok f h
    exact ⟨h1.1, Nat.le_trans h.1 h1.2, fun e => e⟩
  · rw [if_neg c]
    have h1 := rf_ok hz h
    exact ⟨h1.1, Nat.le_refl _, fun e => absurd e h1.2⟩
section SIM
variable {α β : Type} {f : Nat → Int32} {z : Nat} {A : gA α} {B : gA β} {Rl : α → β → Prop} {wt : α → Nat}
def gmP (z : Nat) (Rl : α → β → Prop) (wt : α → Nat) (F : rS → rS × α) (H : rS → rS × β) : Prop := ∀ q, pok z q → pok z (F q).1 ∧ q.2.1 + wt (F q).2 ≤ (F q).1.2.1 ∧ (F q).1 = (H q).1 ∧ ((F q).1.2.2.2.2 = -1 → q.2.2.2.2 = -1 ∧ Rl (F q).2 (H q).2)
def gmA (A : gA α) (B : gA β) (Rl : α → β → Prop) (wt : α → Nat) : Prop := (∀ v, -6 ≤ v → Rl (A.1 v) (B.1 v)) ∧ (∀ v, wt (A.1 v) ≤ 1) ∧ wt A.2.1 = 0 ∧ (∀ v x y, v = -7 ∨ v = -8 → Rl x y → Rl (A.2.2.1 v x) (B.2.2.1 v y)) ∧ (∀ v x, wt (A.2.2.1 v x) ≤ wt x + 1) ∧ (∀ v x y x' y', -15 ≤ v → v ≤ -9 → Rl x x' → Rl y y' → Rl (A.2.2.2 v x y) (B.2.2.2 v x' y')) ∧ ∀ v x y, wt (A.2.2.2 v x y) ≤ wt x + wt y + 1
theorem gm_loop (hA : gmA A B Rl wt) {isOp : Int32 → Bool} {cd : Int32 → Int32} (hop : ∀ v, isOp v = true → 0 < v ∧ -15 ≤ cd v ∧ cd v ≤ -9) {F : rS → rS × α} {H : rS → rS × β} (hs : gmP z Rl wt F H) : ∀ (n : Nat) (r : rS × α) (s : rS × β) (p0 : Nat), pok z r.1 → r.1 = s.1 → p0 + wt r.2 ≤ r.1.2.1 → (r.1.2.2.2.2 = -1 → Rl r.2 s.2) →
    pok z (gLoop f z A isOp cd F n r).1 ∧ p0 + wt (gLoop f z A isOp cd F n r).2 ≤ (gLoop f z A isOp cd F n r).1.2.1 ∧ (gLoop f z A isOp cd F n r).1 = (gLoop f z B isOp cd H n s).1 ∧ ((gLoop f z A isOp cd F n r).1.2.2.2.2 = -1 → r.1.2.2.2.2 = -1 ∧ Rl (gLoop f z A isOp cd F n r).2 (gLoop f z B isOp cd H n s).2) := by
  intro n
  induction n with
  | zero => intro r s p0 h1 h2 h3 h4; exact ⟨h1, h3, h2, fun e => ⟨e, h4 e⟩⟩
  | succ n ih =>
    intro r s p0 h1 h2 h3 h4
    by_cases c : isOp r.1.2.2.1 = true
    · have c' : isOp s.1.2.2.1 = true := by rw [← h2]; exact c
      rw [gLoop_y c, gLoop_y c', ← h2]
      have ho := hop _ c
      have hn := nx_ok f h1
      have hs1 := hs (nxQ f z r.1) hn.1
      have h5 := h1.2.2.1 ho.1
      have hw := hA.2.2.2.2.2.2 (cd r.1.2.2.1) r.2 (F (nxQ f z r.1)).2
      have h6 := ih ((F (nxQ f z r.1)).1, A.2.2.2 (cd r.1.2.2.1) r.2 (F (nxQ f z r.1)).2) ((H (nxQ f z r.1)).1, B.2.2.2 (cd r.1.2.2.1) s.2 (H (nxQ f z r.1)).2) p0 hs1.1 hs1.2.2.1 (by simp only []; omega) (fun e => hA.2.2.2.2.2.1 _ _ _ _ _ ho.2.1 ho.2.2 (h4 (hs1.2.2.2 e).1) (hs1.2.2.2 e).2)
      exact ⟨h6.1, h6.2.1, h6.2.2.1, fun e => ⟨(hs1.2.2.2 (h6.2.2.2 e).1).1, (h6.2.2.2 e).2⟩⟩
    · have c' : ¬ isOp s.1.2.2.1 = true := by rw [← h2]; exact c
      rw [gLoop_n c, gLoop_n c']
      exact ⟨h1, h3, h2, fun e => ⟨e, h4 e⟩⟩
theorem gm_lp (hA : gmA A B Rl wt) {isOp : Int32 → Bool} {cd : Int32 → Int32} (hop : ∀ v, isOp v = true → 0 < v ∧ -15 ≤ cd v ∧ cd v ≤ -9) {F : rS → rS × α} {H : rS → rS × β} (hs : gmP z Rl wt F H) : gmP z Rl wt (fun q => gLoop f z A isOp cd F 160 (F q)) (fun q => gLoop f z B isOp cd H 160 (H q)) := by
  intro q hq
  have h1 := hs q hq
  have h2 := gm_loop (f := f) hA hop hs 160 (F q) (H q) q.2.1 h1.1 h1.2.2.1 h1.2.1 (fun e => (h1.2.2.2 e).2)
  exact ⟨h2.1, h2.2.1, h2.2.2.1, fun e => ⟨(h1.2.2.2 (h2.2.2.2 e).1).1, (h2.2.2.2 e).2⟩⟩
theorem op42_r (v : Int32) (h : op42 v = true) : 0 < v ∧ -15 ≤ cd42 v ∧ cd42 v ≤ -9 := by
  have e : v = 42 := by simpa [op42] using h
  subst e
  decide
theorem op7_r (v : Int32) (h : op7 v = true) : 0 < v ∧ -15 ≤ cd7 v ∧ cd7 v ≤ -9 := by
  have e : v = 7 := by simpa [op7] using h
  subst e
  decide
theorem op6_r (v : Int32) (h : op6 v = true) : 0 < v ∧ -15 ≤ cd6 v ∧ cd6 v ≤ -9 := by
  have e : v = 6 := by simpa [op6] using h
  subst e
  decide
theorem opPM_r (v : Int32) (h : opPM v = true) : 0 < v ∧ -15 ≤ cdPM v ∧ cdPM v ≤ -9 := by
  rcases opPM_t.mp h with e | e <;> subst e <;> decide
theorem gm_cmp (hA : gmA A B Rl wt) {F : rS → rS × α} {H : rS → rS × β} (hs : gmP z Rl wt F H) : gmP z Rl wt (fun q => gCmp2 f z A F (F q)) (fun q => gCmp2 f z B H (H q)) := by
  intro q hq
  have h1 := hs q hq
  simp only []
  unfold gCmp2
  rw [← h1.2.2.1]
  by_cases c : (F q).1.2.2.1 = 60 ∨ (F q).1.2.2.1 = 61
  · rw [if_pos c, if_pos c]
    have ho : 0 < (F q).1.2.2.1 ∧ -15 ≤ cdC (F q).1.2.2.1 ∧ cdC (F q).1.2.2.1 ≤ -9 := by rcases c with e | e <;> rw [e] <;> decide
    have hn := nx_ok f h1.1
    have h2 := hs _ hn.1
    have h5 := h1.1.2.2.1 ho.1
    have hw := hA.2.2.2.2.2.2 (cdC (F q).1.2.2.1) (F q).2 (F (nxQ f z (F q).1)).2
    exact ⟨h2.1, by simp only []; omega, h2.2.2.1, fun e => ⟨(h1.2.2.2 (h2.2.2.2 e).1).1, hA.2.2.2.2.2.1 _ _ _ _ _ ho.2.1 ho.2.2 (h1.2.2.2 (h2.2.2.2 e).1).2 (h2.2.2.2 e).2⟩⟩
  · rw [if_neg c, if_neg c]
    exact ⟨h1.1, h1.2.1, h1.2.2.1, h1.2.2.2⟩
theorem gm_bad (hz : z ≤ 160) (hA : gmA A B Rl wt) {q : rS} (hq : pok z q) : pok z (rfQ q, A.2.1).1 ∧ q.2.1 + wt (rfQ q, A.2.1).2 ≤ (rfQ q, A.2.1).1.2.1 ∧ (rfQ q, A.2.1).1 = (rfQ q, B.2.1).1 ∧ ((rfQ q, A.2.1).1.2.2.2.2 = -1 → q.2.2.2.2 = -1 ∧ Rl (rfQ q, A.2.1).2 (rfQ q, B.2.1).2) := by
  have h1 := rf_ok hz hq
  refine ⟨h1.1, ?_, rfl, fun e => absurd e h1.2⟩
  rw [hA.2.2.1]
  exact Nat.le_refl _
theorem gm_one (hz : z ≤ 160) (hA : gmA A B Rl wt) {ok : Bool} {ro re : rS → rS × α} {ro' re' : rS → rS × β} (h1 : ok = true → gmP z Rl wt ro ro') (h2 : ok = true → gmP z Rl wt re re') : gmP z Rl wt (gOneF f z A ok ro re) (gOneF f z B ok ro' re') := by
  intro q hq
  unfold gOneF
  by_cases c1 : q.2.2.1 = 1 ∨ q.2.2.1 = 2
  · rw [if_pos c1, if_pos c1]
    have hn := nx_ok f hq
    have h3 := hq.2.2.1 (by rcases c1 with e | e <;> rw [e] <;> decide)
    have hw := hA.2.1 q.2.2.2.1
    exact ⟨hn.1, by simp only []; omega, rfl, fun e => ⟨e, hA.1 _ (hq.2.2.2 c1)⟩⟩
  · rw [if_neg c1, if_neg c1]
    by_cases c2 : q.2.2.1 = 45
    · rw [if_pos c2, if_pos c2]
      by_cases c3 : ok = true
      · rw [if_pos c3, if_pos c3]
        have hn := nx_ok f hq
        have h3 := hq.2.2.1 (by rw [c2]; decide)
        have h4 := h1 c3 _ hn.1
        have hw := hA.2.2.2.2.1 (-8) (ro (nxQ f z q)).2
        exact ⟨h4.1, by simp only []; omega, h4.2.2.1, fun e => ⟨(h4.2.2.2 e).1, hA.2.2.2.1 _ _ _ (Or.inr rfl) (h4.2.2.2 e).2⟩⟩
      · rw [if_neg c3, if_neg c3]
        exact gm_bad hz hA hq
    · rw [if_neg c2, if_neg c2]
      by_cases c4 : q.2.2.1 = 40
      · rw [if_pos c4, if_pos c4]
        by_cases c3 : ok = true
        · rw [if_pos c3, if_pos c3]
          have hn := nx_ok f hq
          have h3 := hq.2.2.1 (by rw [c4]; decide)
          have h4 := h2 c3 _ hn.1
          have h5 := ex_ok f hz 41 h4.1
          exact ⟨h5.1, by simp only []; omega, by simp only []; rw [h4.2.2.1], fun e => ⟨(h4.2.2.2 (h5.2.2 e)).1, (h4.2.2.2 (h5.2.2 e)).2⟩⟩
        · rw [if_neg c3, if_neg c3]
          exact gm_bad hz hA hq
      · rw [if_neg c4, if_neg c4]
        exact gm_bad hz hA hq
theorem gm_not (hz : z ≤ 160) (hA : gmA A B Rl wt) {ok : Bool} {rn one : rS → rS × α} {rn' one' : rS → rS × β} (h1 : ok = true → gmP z Rl wt rn rn') (h2 : gmP z Rl wt one one') : gmP z Rl wt (gNotF f z A ok rn one) (gNotF f z B ok rn' one') := by
  intro q hq
  unfold gNotF
  by_cases c2 : q.2.2.1 = 8
  · rw [if_pos c2, if_pos c2]
    by_cases c3 : ok = true
    · rw [if_pos c3, if_pos c3]
      have hn := nx_ok f hq
      have h3 := hq.2.2.1 (by rw [c2]; decide)
      have h4 := h1 c3 _ hn.1
      have hw := hA.2.2.2.2.1 (-7) (rn (nxQ f z q)).2
      exact ⟨h4.1, by simp only []; omega, h4.2.2.1, fun e => ⟨(h4.2.2.2 e).1, hA.2.2.2.1 _ _ _ (Or.inl rfl) (h4.2.2.2 e).2⟩⟩
    · rw [if_neg c3, if_neg c3]
      exact gm_bad hz hA hq
  · rw [if_neg c2, if_neg c2]
    have h5 : gmP z Rl wt (gTerm f z A one) (gTerm f z B one') := gm_lp hA op42_r h2
    have h6 : gmP z Rl wt (gSum f z A one) (gSum f z B one') := gm_lp hA opPM_r h5
    exact gm_cmp hA h6 q hq
theorem gm_E (hA : gmA A B Rl wt) {nt : rS → rS × α} {nt' : rS → rS × β} (h2 : gmP z Rl wt nt nt') : gmP z Rl wt (gE f z A nt) (gE f z B nt') := by
  have h5 : gmP z Rl wt (gAnd f z A nt) (gAnd f z B nt') := gm_lp hA op7_r h2
  exact gm_lp hA op6_r h5
theorem gm_lev (hz : z ≤ 160) (hA : gmA A B Rl wt) : ∀ k, gmP z Rl wt (gLev f z A k).1 (gLev f z B k).1 ∧ gmP z Rl wt (gLev f z A k).2 (gLev f z B k).2 := by
  intro k
  induction k with
  | zero =>
    have h0 : gmP z Rl wt (gOneF f z A false (fun q => (q, A.2.1)) (fun q => (q, A.2.1))) (gOneF f z B false (fun q => (q, B.2.1)) (fun q => (q, B.2.1))) := gm_one hz hA (fun e => absurd e (by decide)) (fun e => absurd e (by decide))
    unfold gLev
    exact ⟨h0, gm_not (rn' := fun q => (q, B.2.1)) hz hA (fun e => absurd e (by decide)) h0⟩
  | succ k ih =>
    have h0 := gm_one (f := f) (ok := true) hz hA (fun _ => ih.1) (fun _ => gm_E (f := f) hA ih.2)
    unfold gLev
    exact ⟨h0, gm_not hz hA (fun _ => ih.2) h0⟩
theorem gm_part (hz : z ≤ 160) (hA : gmA A B Rl wt) (key : Int32) : gmP z Rl wt (gPart f z A key) (gPart f z B key) := by
  have hE := gm_E (f := f) hA (gm_lev (f := f) hz hA 5).2
  intro q hq
  unfold gPart
  generalize gE f z A (gLev f z A 5).2 = F at hE ⊢
  generalize gE f z B (gLev f z B 5).2 = H at hE ⊢
  have h1 := ex_ok f hz key hq
  have h2 := hE _ h1.1
  have h3 := ex_ok f hz 59 h2.1
  exact ⟨h3.1, by simp only []; omega, by simp only []; rw [h2.2.2.1], fun e => ⟨h1.2.2 (h2.2.2.2 (h3.2.2 e)).1, (h2.2.2.2 (h3.2.2 e)).2⟩⟩
end SIM
