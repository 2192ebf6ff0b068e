/-! a TEXT's values out of its code, and straight from its bytes -/
def vA (e : Nat → Int32) : gA Int32 := (fun v => if v < 0 then e (-1 - v).toNatClampNeg else v, 0, fun c x => if c = -7 then bI (x = 0) else -x, fun c x y => xJoin c x y)
def xRL (e : Nat → Int32) : List Int32 → List Int32 → List Int32
  | [], st => st
  | c :: cs, st => xRL e cs (xStep e c st)
theorem xRL_app (e : Nat → Int32) : ∀ (a b st : List Int32), xRL e (a ++ b) st = xRL e b (xRL e a st) := by
  intro a
  induction a with
  | nil => intro b st; rfl
  | cons c a ih => intro b st; exact ih b _
def vRl (e : Nat → Int32) (cs : List Int32) (v : Int32) : Prop := ∀ st, xRL e cs st = v :: st
theorem xStep_un (e : Nat → Int32) {v x : Int32} (st : List Int32) (h : v = -7 ∨ v = -8) : xStep e v (x :: st) = (vA e).2.2.1 v x :: st := by
  rcases h with rfl | rfl
  · rfl
  · rfl
theorem xStep_bin (e : Nat → Int32) {v x y : Int32} (st : List Int32) (h1 : -15 ≤ v) (h2 : v ≤ -9) : xStep e v (y :: x :: st) = (vA e).2.2.2 v x y :: st := by
  have a1 : ¬ -6 ≤ v := fun z => absurd (Int32.le_trans z h2) (by decide)
  have a2 : ¬ v = -7 := fun z => by rw [z] at h2; exact absurd h2 (by decide)
  have a3 : ¬ v = -8 := fun z => by rw [z] at h2; exact absurd h2 (by decide)
  unfold xStep
  rw [if_neg a1]
  simp only []
  rw [if_neg a2, if_neg a3]
  rfl
theorem vA_ok (e : Nat → Int32) : gmA cA (vA e) (vRl e) List.length := by
  refine ⟨fun v hv st => ?_, fun v => Nat.le_refl 1, rfl, fun v x y hv h st => ?_, fun v x => ?_, fun v x y x' y' h1 h2 hx hy st => ?_, fun v x y => ?_⟩
  · show xStep e v st = _
    unfold xStep
    rw [if_pos hv]
    rfl
  · show xRL e (x ++ [v]) st = _
    rw [xRL_app, h]
    exact xStep_un e st hv
  · show (x ++ [v]).length ≤ _
    rw [List.length_append]
    exact Nat.le_refl _
  · show xRL e (x ++ y ++ [v]) st = _
    rw [xRL_app, xRL_app, hx, hy]
    exact xStep_bin e st h1 h2
  · show (x ++ y ++ [v]).length ≤ _
    rw [List.length_append, List.length_append]
    exact Nat.le_refl _
theorem xRun_L (e : Nat → Int32) (code : Nat → Int32) : ∀ (cs : List Int32) (a : Nat) (st : List Int32), (∀ j, j < cs.length → code (a + j) = cs.getD j 0) → xRun e code a cs.length st = xRL e cs st := by
  intro cs
  induction cs with
  | nil => intro a st _; rfl
  | cons c cs ih =>
    intro a st h
    have h0 : code a = c := h 0 (Nat.succ_pos _)
    show xRun e code (a + 1) cs.length (xStep e (code a) st) = xRL e cs (xStep e c st)
    rw [h0]
    refine ih (a + 1) _ (fun j hj => ?_)
    have h1 := h (j + 1) (Nat.succ_lt_succ hj)
    rw [show a + 1 + j = a + (j + 1) by omega]
    exact h1
theorem xVal_L {e code : Nat → Int32} {cs : List Int32} {a : Nat} {v : Int32} (h : ∀ j, j < cs.length → code (a + j) = cs.getD j 0) (hv : vRl e cs v) : xVal e code a cs.length = v := by
  unfold xVal
  rw [xRun_L e code cs a [] h, hv []]
  rfl
theorem gR0_ok (f : Nat → Int32) {z : Nat} : pok z (gR0 f z) ∧ (gR0 f z).2.2.2.2 = -1 := by
  have h : pok z ((0, 0, 0, 0, -1) : rS) := ⟨Nat.le_refl _, Nat.zero_le _, fun e => absurd e (by decide), fun e => absurd e z0_n⟩
  exact ⟨(nx_ok f h).1, rfl⟩
theorem sim3 {α β : Type} {z : Nat} {Rl : α → β → Prop} {wt : α → Nat} (hz : z ≤ 160) (P : Int32 → rS → rS × α) (H : Int32 → rS → rS × β) (hP : ∀ k, gmP z Rl wt (P k) (H k)) {q0 : rS} (h0 : pok z q0) {r1 r2 r3 : rS × α} {s1 s2 s3 : rS × β} (e1 : P 3 q0 = r1) (e2 : P 4 r1.1 = r2) (e3 : P 5 r2.1 = r3) (f1 : H 3 q0 = s1) (f2 : H 4 s1.1 = s2) (f3 : H 5 s2.1 = s3) :
    r1.1 = s1.1 ∧ r2.1 = s2.1 ∧ r3.1 = s3.1 ∧ ((if r3.1.2.2.1 = 0 then r3.1 else rfQ r3.1).2.2.2.2 = -1 → Rl r1.2 s1.2 ∧ Rl r2.2 s2.2 ∧ Rl r3.2 s3.2) ∧ wt r1.2 + wt r2.2 + wt r3.2 ≤ z := by
  have p1 := hP 3 q0 h0
  rw [e1, f1] at p1
  have p2 := hP 4 r1.1 p1.1
  rw [e2, p1.2.2.1, f2] at p2
  have p3 := hP 5 r2.1 p2.1
  rw [e3, p2.2.2.1, f3] at p3
  refine ⟨p1.2.2.1, p2.2.2.1, p3.2.2.1, fun hF => ?_, ?_⟩
  · have q3 : r3.1.2.2.2.2 = -1 := by
      by_cases c : r3.1.2.2.1 = 0
      · rw [if_pos c] at hF
        exact hF
      · rw [if_neg c] at hF
        exact absurd hF (rf_ok hz p3.1).2
    have q2 := (p3.2.2.2 q3).1
    rw [← p2.2.2.1] at q2
    have q1 := (p2.2.2.2 q2).1
    rw [← p1.2.2.1] at q1
    exact ⟨(p1.2.2.2 q1).2, (p2.2.2.2 q2).2, (p3.2.2.2 q3).2⟩
  · have h1 := p3.1.1
    have h2 := p3.1.2.1
    have a1 := p1.2.1
    have a2 := p2.2.1
    have a3 := p3.2.1
    rw [← p1.2.2.1] at a2
    rw [← p2.2.2.1] at a3
    omega
/-- the three parts: states are alike, nothing is faulty ahead of what is sound, values are what the code is worth, the code fits -/
theorem gR_sim (f : Nat → Int32) {z : Nat} (hz : z ≤ 160) (e : Nat → Int32) :
    (gR1 f z cA).1 = (gR1 f z (vA e)).1 ∧ (gR2 f z cA).1 = (gR2 f z (vA e)).1 ∧ (gR3 f z cA).1 = (gR3 f z (vA e)).1 ∧
    (gFl f z cA = -1 → vRl e (gR1 f z cA).2 (gR1 f z (vA e)).2 ∧ vRl e (gR2 f z cA).2 (gR2 f z (vA e)).2 ∧ vRl e (gR3 f z cA).2 (gR3 f z (vA e)).2) ∧ (gR1 f z cA).2.length + (gR2 f z cA).2.length + (gR3 f z cA).2.length ≤ z :=
  sim3 hz (gPart f z cA) (gPart f z (vA e)) (fun k => gm_part (f := f) hz (vA_ok e) k) (gR0_ok f).1 (r1 := gR1 f z cA) (r2 := gR2 f z cA) (r3 := gR3 f z cA) (s1 := gR1 f z (vA e)) (s2 := gR2 f z (vA e)) (s3 := gR3 f z (vA e)) rfl rfl rfl rfl rfl rfl
theorem gFl_eq (f : Nat → Int32) {z : Nat} (hz : z ≤ 160) (e : Nat → Int32) : gFl f z cA = gFl f z (vA e) := by
  unfold gFl
  rw [(gR_sim f hz e).2.2.1]
theorem cat3 {a b c x y w : List Int32} (hx : cat [] a = x) (hy : cat x b = y) (hw : cat y c = w) (hl : a.length + b.length + c.length ≤ 160) : x = a ∧ y = a ++ b ∧ w = a ++ b ++ c := by
  have e1 : x = a := by
    rw [← hx]
    unfold cat
    rw [List.nil_append, List.take_of_length_le (by omega)]
  have e2 : y = a ++ b := by
    rw [← hy, e1]
    unfold cat
    rw [List.take_of_length_le (by rw [List.length_append]; omega)]
  refine ⟨e1, e2, ?_⟩
  rw [← hw, e2]
  unfold cat
  rw [List.take_of_length_le (by rw [List.length_append, List.length_append]; omega)]
theorem cC_eq (f : Nat → Int32) {z : Nat} (hz : z ≤ 160) : cC1 f z = (gR1 f z cA).2 ∧ cC2 f z = (gR1 f z cA).2 ++ (gR2 f z cA).2 ∧ cC3 f z = (gR1 f z cA).2 ++ (gR2 f z cA).2 ++ (gR3 f z cA).2 :=
  cat3 (a := (gR1 f z cA).2) (b := (gR2 f z cA).2) (c := (gR3 f z cA).2) rfl rfl rfl (Nat.le_trans (gR_sim f hz (fun _ => 0)).2.2.2.2 hz)
/-- what the TEXT's bytes are worth -/
def tW (f : Nat → Int32) (z : Nat) (e : Nat → Int32) : Int32 × Int32 × Int32 := ((gR1 f z (vA e)).2, (gR2 f z (vA e)).2, (gR3 f z (vA e)).2)
/-- the code of a TEXT, and its ends, are those of its bytes -/
def cOf (f : Nat → Int32) (z : Nat) (code : Nat → Int32) (e1 e2 e3 : Nat) : Prop := gFl f z cA = -1 ∧ e1 = (cC1 f z).length ∧ e2 = (cC2 f z).length ∧ e3 = (cC3 f z).length ∧ ∀ j, j < (cC3 f z).length → code j = (cC3 f z).getD j 0
theorem seg_val {c1 c2 c3 : List Int32} {v1 v2 v3 : Int32} {e code : Nat → Int32} {e1 e2 e3 : Nat} (he1 : e1 = c1.length) (he2 : e2 = (c1 ++ c2).length) (he3 : e3 = (c1 ++ c2 ++ c3).length) (h4 : ∀ j, j < (c1 ++ c2 ++ c3).length → code j = (c1 ++ c2 ++ c3).getD j 0) (h1 : vRl e c1 v1) (h2 : vRl e c2 v2) (h3 : vRl e c3 v3) (hl : c1.length + c2.length + c3.length ≤ 160) :
    xVal e code 0 e1 = v1 ∧ xVal e code e1 (e2 - e1) = v2 ∧ xVal e code e2 (e3 - e2) = v3 ∧ e1 ≤ e2 ∧ e2 ≤ e3 ∧ e3 ≤ 160 := by
  rw [List.length_append] at he2
  rw [List.length_append, List.length_append] at he3
  rw [List.length_append, List.length_append] at h4
  refine ⟨?_, ?_, ?_, by omega, by omega, by omega⟩
  · rw [he1]
    refine xVal_L (fun j hj => ?_) h1
    rw [Nat.zero_add, h4 j (by omega), List.append_assoc, List.getD_eq_getElem?_getD, List.getD_eq_getElem?_getD, List.getElem?_append_left hj]
  · rw [show e2 - e1 = c2.length by omega, he1]
    refine xVal_L (fun j hj => ?_) h2
    rw [h4 _ (by omega), List.append_assoc, List.getD_eq_getElem?_getD, List.getD_eq_getElem?_getD, List.getElem?_append_right (by omega), List.getElem?_append_left (by omega), Nat.add_sub_cancel_left]
  · rw [show e3 - e2 = c3.length by omega, he2]
    refine xVal_L (fun j hj => ?_) h3
    rw [h4 _ (by omega), List.getD_eq_getElem?_getD, List.getD_eq_getElem?_getD, List.getElem?_append_right (by rw [List.length_append]; omega), List.length_append, Nat.add_sub_cancel_left]
theorem val3 {P : Prop} {a b c x y w : Int32} {t : Int32 × Int32 × Int32} (ht : t = (x, y, w)) (h : a = x ∧ b = y ∧ c = w ∧ P) : a = t.1 ∧ b = t.2.1 ∧ c = t.2.2 ∧ P := by
  subst ht
  exact h
theorem cOf_val {f : Nat → Int32} {z : Nat} (hz : z ≤ 160) {code : Nat → Int32} {e1 e2 e3 : Nat} (h : cOf f z code e1 e2 e3) (e : Nat → Int32) : xVal e code 0 e1 = (tW f z e).1 ∧ xVal e code e1 (e2 - e1) = (tW f z e).2.1 ∧ xVal e code e2 (e3 - e2) = (tW f z e).2.2 ∧ e1 ≤ e2 ∧ e2 ≤ e3 ∧ e3 ≤ 160 := by
  have g := cC_eq f hz
  have q := gR_sim f hz e
  have hv := q.2.2.2.1 h.1
  have h4 := h.2.2.2.2
  rw [g.2.2] at h4
  refine val3 (x := (gR1 f z (vA e)).2) (y := (gR2 f z (vA e)).2) (w := (gR3 f z (vA e)).2) rfl ?_
  exact seg_val (h.2.1.trans (congrArg List.length g.1)) (h.2.2.1.trans (congrArg List.length g.2.1)) (h.2.2.2.1.trans (congrArg List.length g.2.2)) h4 hv.1 hv.2.1 hv.2.2 (Nat.le_trans q.2.2.2.2 hz)
