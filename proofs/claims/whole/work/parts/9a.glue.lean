/-! the two sides, call by call -/
def up30 (M M1 : wS) : Prop := ∀ g i k, 30 ≤ g → M1.1 g i k = M.1 g i k
theorem up30.rf {M : wS} : up30 M M := fun _ _ _ _ => rfl
theorem up30.set {M M1 : wS} (h : up30 M M1) {g i k : Nat} (x : Int32) (hg : g < 30) : up30 M (mset M1 g i k x) := fun g' i' k' e => by
  rw [mset_at, if_neg (by omega)]
  exact h g' i' k' e
theorem up30.row {M M1 : wS} (h : up30 M M1) {g i : Nat} (f : Nat → Int32) (hg : g < 30) : up30 M (mrow M1 g i f) := fun g' i' k' e => by
  rw [mrow_at, if_neg (by omega)]
  exact h g' i' k' e
theorem up30.ite {M : wS} {P : Prop} [Decidable P] {a b : Int32 × wS} (ha : up30 M a.2) (hb : up30 M b.2) : up30 M (if P then a else b).2 := by
  by_cases e : P
  · rw [if_pos e]; exact ha
  · rw [if_neg e]; exact hb
theorem up30.fill {M : wS} {g i : Nat} (hg : g < 30) : ∀ (n j : Nat) (M1 : wS), up30 M M1 → up30 M (mfill g i j n M1) := by
  intro n
  induction n with
  | zero => exact fun j M1 h => h
  | succ n ih => exact fun j M1 h => ih (j + 1) _ (h.set _ hg)
theorem u_buyer (M : wS) (nb : Nat) (a b c : Int32) : up30 M (kBuyer M nb a b c).2 :=
  up30.ite (up30.ite ((((((up30.rf.set _ (by decide)).set _ (by decide)).set _ (by decide)).set _ (by decide)).set _ (by decide)).set _ (by decide)) up30.rf) up30.rf
theorem u_thing (M : wS) (nt : Nat) (a b : Int32) : up30 M (kThing M nt a b).2 :=
  up30.ite (up30.ite ((((up30.rf.set _ (by decide)).set _ (by decide)).set _ (by decide)).set _ (by decide)) up30.rf) up30.rf
theorem u_set (M : wS) (nb nt : Nat) (a b c : Int32) : up30 M (kSet M nb nt a b c).2 :=
  up30.ite (up30.ite (up30.rf.set _ (by decide)) up30.rf) (up30.ite (up30.ite (up30.rf.set _ (by decide)) up30.rf) (up30.ite (up30.ite (up30.rf.set _ (by decide)) up30.rf) (up30.ite (up30.ite (up30.rf.set _ (by decide)) up30.rf) (up30.ite (up30.ite (up30.rf.set _ (by decide)) up30.rf) up30.rf))))
theorem u_feed (M : wS) (z : Nat) (v : Int32) : up30 M (kFeed M z v).2 :=
  up30.ite (up30.ite ((up30.rf.set _ (by decide)).set _ (by decide)) up30.rf) up30.rf
theorem u_force (M : wS) (t : Int32) : up30 M (kForce M t).2 := up30.ite (up30.rf.set _ (by decide)) up30.rf
theorem u_bec (M : wS) (i j nb nt : Nat) : up30 M (kBec M i j nb nt) :=
  (((((((((up30.rf.row _ (by decide)).row _ (by decide)).row _ (by decide)).set _ (by decide)).set _ (by decide)).set _ (by decide)).set _ (by decide)).set _ (by decide)).set _ (by decide))
theorem u_image (M : wS) (nb nt : Nat) : up30 M (kImage M nb nt) := (((u_bec M 1 0 nb nt).set _ (by decide)).set _ (by decide)).set _ (by decide)
theorem u_back (M : wS) (nb nt : Nat) : up30 M (kBack M nb nt).2 := up30.ite up30.rf (u_bec M 0 1 nb nt)
theorem u_sheet (M : wS) (a b c : Int32) : up30 M (kSheet M a b c).2 :=
  up30.ite (up30.ite (up30.fill (by decide) _ _ _ ((up30.rf.set _ (by decide)).set _ (by decide))) (up30.ite (up30.ite (up30.fill (by decide) _ _ _ ((up30.rf.set _ (by decide)).set _ (by decide))) up30.rf) up30.rf)) up30.rf
theorem u_cell (M : wS) (a b c : Int32) : up30 M (kCell M a b c).2 :=
  up30.ite (up30.ite up30.rf (up30.ite (up30.rf.set _ (by decide)) up30.rf)) up30.rf
theorem u_copy (M : wS) (a i b j n : Int32) : up30 M (kCopy M a i b j n).2 :=
  up30.ite (up30.ite up30.rf (up30.ite (up30.ite (up30.rf.row _ (by decide)) up30.rf) up30.rf)) up30.rf
theorem up30.tr {M M1 M2 : wS} (h : up30 M M1) (h2 : up30 M1 M2) : up30 M M2 := fun g i k e => (h2 g i k e).trans (h g i k e)
theorem u_th (k : Nat) : ∀ (n : Nat) (c a : Int32) (M : wS), up30 M (kTh k n c a M).2 := by
  intro n
  induction n with
  | zero => exact fun c a M => up30.rf
  | succ n ih => exact fun c a M => up30.ite ((u_thing M _ _ _).tr (ih _ _ _)) up30.rf
theorem u_things (M : wS) (a b c d : Int32) : up30 M (kThings M a b c d).2 :=
  up30.ite (up30.ite up30.rf (up30.ite (u_th _ _ _ _ _) up30.rf)) up30.rf
theorem u_pstep (M : wS) (b : Nat) : up30 M (pStep M b) := fun g i k e => by rw [pStep_oth M b (by omega)]
theorem u_ploop : ∀ (n b : Nat) (M : wS), up30 M (pLoop b n M) := by
  intro n
  induction n with
  | zero => exact fun b M => up30.rf
  | succ n ih => exact fun b M => (u_pstep M b).tr (ih _ _)
theorem u_text {M M' : wS} {tc z : Nat} {x : Int32} (h : kText M tc z x M') : up30 M M' := by
  rcases h with ⟨-, -, rfl⟩ | ⟨-, M1, h1, h2⟩
  · exact up30.rf
  · have k : up30 M M1 := fun g i k e => by rw [h1.1.1 g i (by omega) (by omega) (by omega)]
    rcases h2 with ⟨-, -, rfl⟩ | ⟨-, -, rfl⟩
    · exact k.set _ (by decide)
    · exact k
/-- the relation of a memory with itself -/
def RZ (M : wS) : Prop := ∃ nb nt tc z bo r, RR M M nb nt tc z bo r
theorem RR.up {M M1 : wS} {nb nt tc z bo r : Nat} (h : RR M M nb nt tc z bo r) (hu : up30 M M1) : RR M M1 nb nt tc z bo r := h.both cE.rf (fun g i k hg _ _ => hu g i k hg)
theorem cK.cE {M M' : wS} (h : cK M M') : cE M M' := fun g i k hg _ => by rw [h g i hg]
theorem RZ.go {K : Int32 × wS} {x x2 : Int32} {M1 M2 : wS} (h1 : (x, M1) = K) (h2 : RO K M1 x2 M2) : x = x2 ∧ RZ M2 := by
  subst h1
  obtain ⟨e, c, nb, nt, tc, z, bo, r, h⟩ := h2
  exact ⟨e.symm, nb, nt, tc, z, bo, r, h.both c.cE mE.rf⟩
theorem rC.up {M0 M M1 : wS} {nb nt r e1 e2 e3 : Nat} (h : rC M0 M nb nt r e1 e2 e3) (hm : mE M M1) : rC M0 M1 nb nt r e1 e2 e3 := by
  obtain ⟨h1, h2, z, f, b1, b2, b3, b4, b5⟩ := h
  refine ⟨h1, h2.fr (fun _ _ _ _ => rfl) (fun g i k e => hm g i k (by omega) (by omega) (by omega)), z, f, ?_, b2, fun k hk => ?_, b4, b5⟩
  · rw [hm 32 0 r (by omega) (by omega) (by omega)]; exact b1
  · rw [hm 31 0 _ (by omega) (by omega) (by omega)]; exact b3 k hk
/-- behind two questions that leave but scratch -/
theorem RR.ask {M M1 M2 : wS} {nb nt tc z bo r : Nat} (h : RR M M nb nt tc z bo r) (h1 : Scr M M1) (h2 : qF M1 M2) : RZ M2 := ⟨nb, nt, tc, z, bo, r, h.both (h1.cE.tr h2.cE) (h1.mE.tr h2.mE)⟩
theorem two_eq {P : Prop} {A B x x2 : Int32} (h1 : P → x = A) (h2 : ¬ P → x = B) (g1 : P → x2 = A) (g2 : ¬ P → x2 = B) : x = x2 := by
  by_cases e : P
  · rw [h1 e, g1 e]
  · rw [h2 e, g2 e]
theorem two_eqL {P : Prop} {A B x x2 : Int64} (h1 : P → x = A) (h2 : ¬ P → x = B) (g1 : P → x2 = A) (g2 : ¬ P → x2 = B) : x = x2 := by
  by_cases e : P
  · rw [h1 e, g1 e]
  · rw [h2 e, g2 e]
/-- both sides of a call: the class's first, then the reference's; the answers are equal, the relation goes on -/
def Both (l : Launch) (D : va_G) (cy : Nat → ClassId) (ad : Nat → Nat → Nat) (G d : Nat) (y1 : MethodName) (c1 : ByteArray) (n1 : Nat) (as1 : List Value) (y2 : MethodName) (c2 : ByteArray) (n2 : Nat) (as2 : List Value) (M : wS) : Prop :=
  ∃ Q1 : Int32 → wS → Prop, Ctr l D cy ad G d y1 c1 n1 (some .int) as1 M (rI Q1) ∧ ∀ x M1, Q1 x M1 → Ctr l D cy ad G d y2 c2 n2 (some .int) as2 M1 (rI fun x2 M2 => x = x2 ∧ RZ M2)
def BothL (l : Launch) (D : va_G) (cy : Nat → ClassId) (ad : Nat → Nat → Nat) (G d : Nat) (y1 : MethodName) (c1 : ByteArray) (n1 : Nat) (as1 : List Value) (y2 : MethodName) (c2 : ByteArray) (n2 : Nat) (as2 : List Value) (M : wS) : Prop :=
  ∃ Q1 : Int64 → wS → Prop, Ctr l D cy ad G d y1 c1 n1 (some .long) as1 M (rL Q1) ∧ ∀ x M1, Q1 x M1 → Ctr l D cy ad G d y2 c2 n2 (some .long) as2 M1 (rL fun x2 M2 => x = x2 ∧ RZ M2)
theorem Ctr.imp {l : Launch} {D : va_G} {cy : Nat → ClassId} {ad : Nat → Nat → Nat} {G d : Nat} {cc : ByteArray} {nL : Nat} {M : wS} {y : MethodName} {ret : Option FieldType} {avs : List Value} {Qf Qf' : Int32 → wS → Prop} (h : Ctr l D cy ad G d y cc nL ret avs M (rI Qf)) (hQ : ∀ x M', Qf x M' → Qf' x M') : Ctr l D cy ad G d y cc nL ret avs M (rI Qf') :=
  h.weaken (fun _ _ ⟨x, e, g⟩ => ⟨x, e, hQ x _ g⟩)
theorem Ctr.impL {l : Launch} {D : va_G} {cy : Nat → ClassId} {ad : Nat → Nat → Nat} {G d : Nat} {cc : ByteArray} {nL : Nat} {M : wS} {y : MethodName} {ret : Option FieldType} {avs : List Value} {Qf Qf' : Int64 → wS → Prop} (h : Ctr l D cy ad G d y cc nL ret avs M (rL Qf)) (hQ : ∀ x M', Qf x M' → Qf' x M') : Ctr l D cy ad G d y cc nL ret avs M (rL Qf') :=
  h.weaken (fun _ _ ⟨x, e, g⟩ => ⟨x, e, hQ x _ g⟩)
