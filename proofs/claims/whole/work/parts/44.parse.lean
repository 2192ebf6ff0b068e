/-! reading a TEXT: sentences, purely, over any values (code, or ints) -/
abbrev rS : Type := Nat × Nat × Int32 × Int32 × Int32
abbrev gA (α : Type) : Type := (Int32 → α) × α × (Int32 → α → α) × (Int32 → α → α → α)
def nxQ (f : Nat → Int32) (z : Nat) (q : rS) : rS := ((lx f z q.1).1, (lx f z q.1).2.1, (lx f z q.1).2.2.1, (lx f z q.1).2.2.2, q.2.2.2.2)
def rfQ (q : rS) : rS := (q.1, q.2.1, -1, q.2.2.2.1, if q.2.2.2.2 = -1 then nI q.2.1 else q.2.2.2.2)
def exQ (f : Nat → Int32) (z : Nat) (c : Int32) (q : rS) : rS := if q.2.2.1 = c then nxQ f z q else rfQ q
def gLoop {α : Type} (f : Nat → Int32) (z : Nat) (A : gA α) (isOp : Int32 → Bool) (cd : Int32 → Int32) (sub : rS → rS × α) : Nat → rS × α → rS × α
  | 0, r => r
  | n + 1, r => if isOp r.1.2.2.1 = true then gLoop f z A isOp cd sub n ((sub (nxQ f z r.1)).1, A.2.2.2 (cd r.1.2.2.1) r.2 (sub (nxQ f z r.1)).2) else r
def op42 (v : Int32) : Bool := v == 42
def op7 (v : Int32) : Bool := v == 7
def op6 (v : Int32) : Bool := v == 6
def opPM (v : Int32) : Bool := v == 43 || v == 45
def cd42 (_ : Int32) : Int32 := -15
def cd7 (_ : Int32) : Int32 := -10
def cd6 (_ : Int32) : Int32 := -9
def cdPM (v : Int32) : Int32 := if v = 43 then -13 else -14
def cdC (v : Int32) : Int32 := if v = 60 then -11 else -12
def gTerm {α : Type} (f : Nat → Int32) (z : Nat) (A : gA α) (one : rS → rS × α) (q : rS) : rS × α := gLoop f z A op42 cd42 one 160 (one q)
def gSum {α : Type} (f : Nat → Int32) (z : Nat) (A : gA α) (one : rS → rS × α) (q : rS) : rS × α := gLoop f z A opPM cdPM (gTerm f z A one) 160 (gTerm f z A one q)
def gCmp2 {α : Type} (f : Nat → Int32) (z : Nat) (A : gA α) (sm : rS → rS × α) (r : rS × α) : rS × α := if r.1.2.2.1 = 60 ∨ r.1.2.2.1 = 61 then ((sm (nxQ f z r.1)).1, A.2.2.2 (cdC r.1.2.2.1) r.2 (sm (nxQ f z r.1)).2) else r
def gAnd {α : Type} (f : Nat → Int32) (z : Nat) (A : gA α) (nt : rS → rS × α) (q : rS) : rS × α := gLoop f z A op7 cd7 nt 160 (nt q)
def gE {α : Type} (f : Nat → Int32) (z : Nat) (A : gA α) (nt : rS → rS × α) (q : rS) : rS × α := gLoop f z A op6 cd6 (gAnd f z A nt) 160 (gAnd f z A nt q)
def gOneF {α : Type} (f : Nat → Int32) (z : Nat) (A : gA α) (ok : Bool) (ro re : rS → rS × α) (q : rS) : rS × α :=
  if q.2.2.1 = 1 ∨ q.2.2.1 = 2 then (nxQ f z q, A.1 q.2.2.2.1)
  else if q.2.2.1 = 45 then (if ok = true then ((ro (nxQ f z q)).1, A.2.2.1 (-8) (ro (nxQ f z q)).2) else (rfQ q, A.2.1))
  else if q.2.2.1 = 40 then (if ok = true then (exQ f z 41 (re (nxQ f z q)).1, (re (nxQ f z q)).2) else (rfQ q, A.2.1))
  else (rfQ q, A.2.1)
def gNotF {α : Type} (f : Nat → Int32) (z : Nat) (A : gA α) (ok : Bool) (rn one : rS → rS × α) (q : rS) : rS × α :=
  if q.2.2.1 = 8 then (if ok = true then ((rn (nxQ f z q)).1, A.2.2.1 (-7) (rn (nxQ f z q)).2) else (rfQ q, A.2.1))
  else gCmp2 f z A (gSum f z A one) (gSum f z A one q)
/-- ONE, and NOT, while so many more may be open -/
def gLev {α : Type} (f : Nat → Int32) (z : Nat) (A : gA α) : Nat → (rS → rS × α) × (rS → rS × α)
  | 0 => (gOneF f z A false (fun q => (q, A.2.1)) (fun q => (q, A.2.1)), gNotF f z A false (fun q => (q, A.2.1)) (gOneF f z A false (fun q => (q, A.2.1)) (fun q => (q, A.2.1))))
  | k + 1 => (gOneF f z A true (gLev f z A k).1 (gE f z A (gLev f z A k).2), gNotF f z A true (gLev f z A k).2 (gOneF f z A true (gLev f z A k).1 (gE f z A (gLev f z A k).2)))
def gPart {α : Type} (f : Nat → Int32) (z : Nat) (A : gA α) (key : Int32) (q : rS) : rS × α := (exQ f z 59 (gE f z A (gLev f z A 5).2 (exQ f z key q)).1, (gE f z A (gLev f z A 5).2 (exQ f z key q)).2)
def gR0 (f : Nat → Int32) (z : Nat) : rS := nxQ f z (0, 0, 0, 0, -1)
def gR1 {α : Type} (f : Nat → Int32) (z : Nat) (A : gA α) : rS × α := gPart f z A 3 (gR0 f z)
def gR2 {α : Type} (f : Nat → Int32) (z : Nat) (A : gA α) : rS × α := gPart f z A 4 (gR1 f z A).1
def gR3 {α : Type} (f : Nat → Int32) (z : Nat) (A : gA α) : rS × α := gPart f z A 5 (gR2 f z A).1
/-- the FAULT's place, or -1 -/
def gFl {α : Type} (f : Nat → Int32) (z : Nat) (A : gA α) : Int32 := (if (gR3 f z A).1.2.2.1 = 0 then (gR3 f z A).1 else rfQ (gR3 f z A).1).2.2.2.2
/-- code -/
def cA : gA (List Int32) := (fun v => [v], [], fun c x => x ++ [c], fun c x y => x ++ y ++ [c])
def cat (a b : List Int32) : List Int32 := (a ++ b).take 160
theorem cat_len (a b : List Int32) : (cat a b).length ≤ 160 := by
  unfold cat
  rw [List.length_take]
  exact Nat.min_le_left _ _
theorem cat_nil {a : List Int32} (h : a.length ≤ 160) : cat a [] = a := by
  unfold cat
  rw [List.append_nil]
  exact List.take_of_length_le h
theorem cat_cat (a b c : List Int32) : cat (cat a b) c = cat a (b ++ c) := by
  unfold cat
  rw [← List.append_assoc]
  apply List.ext_getElem?
  intro i
  by_cases hi : i < 160
  · rw [List.getElem?_take_of_lt hi, List.getElem?_take_of_lt hi]
    by_cases h2 : (a ++ b).length ≤ 160
    · rw [List.take_of_length_le h2]
    · rw [List.getElem?_append_left (by rw [List.length_take]; omega), List.getElem?_append_left (by omega), List.getElem?_take_of_lt hi]
  · rw [List.getElem?_take_eq_none (by omega), List.getElem?_take_eq_none (by omega)]
theorem cat_1 {a : List Int32} (v : Int32) (h : a.length < 160) : cat a [v] = a ++ [v] := by
  unfold cat
  apply List.take_of_length_le
  simp
  omega
theorem cat_full {a : List Int32} (v : Int32) (h : a.length = 160) : cat a [v] = a := by
  unfold cat
  rw [List.take_append_of_le_length (by omega), List.take_of_length_le (by omega)]
/-- the reader's memory: where it stands, and the code so far -/
def rSt (t : Nat) (f : Nat → Int32) (z : Nat) (M : wS) (q : rS) (cur : List Int32) : Prop := (rAt M (q.1, q.2.1, q.2.2.1, q.2.2.2.1) ∧ M.1 11 0 6 = q.2.2.2.2) ∧ q.1 ≤ z ∧ M.1 11 0 1 = nI z ∧ z ≤ 160 ∧ M.1 12 0 = f ∧ cur.length ≤ 160 ∧ M.1 11 0 7 = nI cur.length ∧ ∀ j, j < cur.length → M.1 8 t j = cur.getD j 0
def fr8 (t : Nat) (M M' : wS) : Prop := (∀ g i, g ≠ 11 → ¬ (g = 8 ∧ i = t) → M'.1 g i = M.1 g i) ∧ M'.2 = M.2
theorem fr8.rf {t : Nat} {M : wS} : fr8 t M M := ⟨fun _ _ _ _ => rfl, rfl⟩
theorem fr8.tr {t : Nat} {M M1 M2 : wS} (h : fr8 t M M1) (h2 : fr8 t M1 M2) : fr8 t M M2 := ⟨fun g i a b => (h2.1 g i a b).trans (h.1 g i a b), h2.2.trans h.2⟩
theorem lx_r (f : Nat → Int32) {z a : Nat} (h : a ≤ z) : a ≤ (lx f z a).2.1 ∧ (lx f z a).2.1 ≤ (lx f z a).1 ∧ (lx f z a).1 ≤ z := by
  have h1 := lxSk_r f (z - a) a
  unfold lx
  generalize lxSk f (z - a) a = q at h1
  have h2 := lxWd_r f (z - q) q
  have h3 := lxDg_r f (z - q) q
  unfold lxP
  split
  · exact ⟨h1.1, Nat.le_refl _, by simp only []; omega⟩
  · split
    · unfold lxW
      split <;> exact ⟨h1.1, h2.1, by simp only []; omega⟩
    · split
      · unfold lxD
        split <;> exact ⟨h1.1, h3.1, by simp only []; omega⟩
      · exact ⟨h1.1, by simp only []; omega, by simp only []; omega⟩
section S44
variable {l : Launch} {D : va_G} {cy : Nat → ClassId} {ad : Nat → Nat → Nat} {G d : Nat}
theorem r_advance (hG : 30 ≤ G) (hd : 6 ≤ d) {t : Nat} {f : Nat → Int32} {z : Nat} {M : wS} {q : rS} {cur : List Int32} (h : rSt t f z M q cur) : Ctr l D cy ad G d yX3_advance cX3_advance 1 none [.ref (ad 11 0)] M (rV fun M' => fr8 t M M' ∧ rSt t f z M' (nxQ f z q) cur) := by
  obtain ⟨⟨⟨a1, a2, a3, a4⟩, a5⟩, b1, b2, b3, b4, b5, b6, b7⟩ := h
  refine Ctr.weaken (c_X3_advance hG hd M b4 b2 b3 a1 b1) ?_
  rintro r M' ⟨hr, h1, h2⟩
  refine ⟨hr, ⟨fun g i x _ => h1.1 g i x, h1.2.1⟩, ⟨h2, ?_⟩, (lx_r f b1).2.2, ?_, b3, ?_, b5, ?_, ?_⟩
  · rw [h1.2.2 6 (by decide) (by decide) (by decide) (by decide)]; exact a5
  · rw [h1.2.2 1 (by decide) (by decide) (by decide) (by decide)]; exact b2
  · rw [h1.1 12 0 (by decide)]; exact b4
  · rw [h1.2.2 7 (by decide) (by decide) (by decide) (by decide)]; exact b6
  · intro j hj
    rw [h1.1 8 t (by decide)]
    exact b7 j hj
theorem r_refuse (hG : 30 ≤ G) {t : Nat} {f : Nat → Int32} {z : Nat} {M : wS} {q : rS} {cur : List Int32} (h : rSt t f z M q cur) : Ctr l D cy ad G d yX3_refuse cX3_refuse 1 none [.ref (ad 11 0)] M (rV fun M' => fr8 t M M' ∧ rSt t f z M' (rfQ q) cur) := by
  obtain ⟨⟨⟨a1, a2, a3, a4⟩, a5⟩, b1, b2, b3, b4, b5, b6, b7⟩ := h
  refine Ctr.weaken (c_X3_refuse hG M) ?_
  rintro r M' ⟨hr, rfl⟩
  have key : ∀ g i k, ¬ (g = 11 ∧ i = 0 ∧ (k = 4 ∨ k = 6)) → (kRef M).1 g i k = M.1 g i k := by
    intro g i k hn
    unfold kRef
    split
    · rw [mset_at, if_neg (by omega), mset_at, if_neg (by omega)]
    · rw [mset_at, if_neg (by omega)]
  refine ⟨hr, ⟨fun g i x _ => funext fun j => key g i j (by omega), ?_⟩, ⟨⟨?_, ?_, ?_, fun e => absurd e m1_n⟩, ?_⟩, b1, ?_, b3, ?_, b5, ?_, ?_⟩
  · unfold kRef
    split <;> rfl
  · rw [key _ _ _ (by omega)]; exact a1
  · rw [key _ _ _ (by omega)]; exact a2
  · unfold kRef
    rw [mset_at, if_pos ⟨rfl, rfl, rfl⟩]
    rfl
  · unfold kRef rfQ
    rw [mset_at, if_neg (by omega), a5]
    split
    · rw [mset_at, if_pos ⟨rfl, rfl, rfl⟩]; exact a2
    · exact a5
  · rw [key _ _ _ (by omega)]; exact b2
  · funext j
    rw [key _ _ _ (by omega), b4]
  · rw [key _ _ _ (by omega)]; exact b6
  · intro j hj
    rw [key _ _ _ (by omega)]
    exact b7 j hj
theorem r_expect (hG : 30 ≤ G) (hd : 7 ≤ d) {t : Nat} {f : Nat → Int32} {z : Nat} {M : wS} {q : rS} {cur : List Int32} (h : rSt t f z M q cur) (w : Int32) : Ctr l D cy ad G d yX3_expect cX3_expect 2 none [.ref (ad 11 0), .int w] M (rV fun M' => fr8 t M M' ∧ rSt t f z M' (exQ f z w q) cur) := by
  have a3 : M.1 11 0 4 = q.2.2.1 := h.1.1.2.2.1
  refine Ctr.of (lv0 := [(0, _), (1, _)]) (by decide) (Nat.le_of_ble_eq_true rfl) rfl ?_
  intro p e s m args below meth c C hr hlk _
  have C : CX p s m args c cX3_expect 2 "CostsAge$Reader" D cy ad G (wA ad G) (Rm d) d 0 0 := C
  refine V_aload_n (pc := 0) C 0 dX3_expect_0 rfl rfl ?_
  refine get_X3_49 (pc := 1) C (wg hG (by decide) (by decide)) dX3_expect_1 ?_
  refine V_iload_n (pc := 4) C 1 dX3_expect_4 rfl rfl ?_
  refine V_icmp_ne (tgt := 15) (pc := 5) C dX3_expect_5 (by decide) (fun h_5 => ?_) (fun h_5 => ?_)
  · rw [a3] at h_5
    refine V_aload_n (pc := 15) C 0 dX3_expect_15 rfl rfl ?_
    refine call_X3_52 (pc := 16) C (r_refuse (d := d - 1) hG h) (by omega) (wg hG (by decide) (by decide)) (Nat.le_of_ble_eq_true rfl) dX3_expect_16 (fun M_16 h_16 => ?_)
    refine V_vret (pc := 19) C hr hlk dX3_expect_19 ⟨rfl, ?_⟩
    first | (rw [exQ, if_neg h_5]; exact h_16) | (rw [exQ, if_pos h_5]; exact h_9)
  · rw [a3] at h_5
    refine V_aload_n (pc := 8) C 0 dX3_expect_8 rfl rfl ?_
    refine call_X3_28 (pc := 9) C (r_advance (d := d - 1) hG (by omega) h) (by omega) (wg hG (by decide) (by decide)) (Nat.le_of_ble_eq_true rfl) dX3_expect_9 (fun M_9 h_9 => ?_)
    refine V_goto (tgt := 19) (pc := 12) C dX3_expect_12 (by decide) ?_
    refine V_vret (pc := 19) C hr hlk dX3_expect_19 ⟨rfl, ?_⟩
    first | (rw [exQ, if_neg h_5]; exact h_16) | (rw [exQ, if_pos h_5]; exact h_9)
theorem r_mayOpen (hG : 30 ≤ G) (hd : 1 ≤ d) {t : Nat} {f : Nat → Int32} {z : Nat} {M : wS} {q : rS} {cur : List Int32} (h : rSt t f z M q cur) (o : Int32) : Ctr l D cy ad G d yX3_mayOpen cX3_mayOpen 2 (some .boolean) [.ref (ad 11 0), .int o] M (rI fun x M' => x = bI (o < 5) ∧ fr8 t M M' ∧ rSt t f z M' (if o < 5 then q else rfQ q) cur) := by
  have a3 : M.1 11 0 4 = q.2.2.1 := h.1.1.2.2.1
  refine Ctr.of (lv0 := [(0, _), (1, _)]) (by decide) (Nat.le_of_ble_eq_true rfl) rfl ?_
  intro p e s m args below meth c C hr hlk _
  have C : CX p s m args c cX3_mayOpen 2 "CostsAge$Reader" D cy ad G (wA ad G) (Rm d) d 0 0 := C
  refine V_iload_n (pc := 0) C 1 dX3_mayOpen_0 rfl rfl ?_
  refine V_iconst (v := 5) (pc := 1) C dX3_mayOpen_1 (by decide) ?_
  refine V_icmp_lt (tgt := 9) (pc := 2) C dX3_mayOpen_2 (by decide) (fun h_2 => ?_) (fun h_2 => ?_)
  · refine V_iload_n (pc := 9) C 1 dX3_mayOpen_9 rfl rfl ?_
    refine V_iconst (v := 5) (pc := 10) C dX3_mayOpen_10 (by decide) ?_
    refine V_icmp_ge (tgt := 18) (pc := 11) C dX3_mayOpen_11 (by decide) (fun h_11 => ?_) (fun h_11 => ?_)
    · exact absurd h_2 (by (simp only [i32_eq, Int32.le_iff_toInt_le, Int32.lt_iff_toInt_lt, Int32.not_le, Int32.not_lt, Int32.toInt_add, Int32.toInt_sub, Int32.toInt_mul, Int32.toInt_neg, Int32.toInt_div, tdv2, tdv4, tdv10, tdv52, tdv100, nI_T, apply_ite Int32.toInt, Int.bmod, Int32.reduceToInt] at *; omega))
    · refine V_iconst (v := 1) (pc := 14) C dX3_mayOpen_14 (by decide) ?_
      refine V_goto (tgt := 19) (pc := 15) C dX3_mayOpen_15 (by decide) ?_
      refine V_zret (pc := 19) C hr hlk rfl dX3_mayOpen_19 ⟨_, rfl, ?_⟩
      exact ⟨bI_t h_2, fr8.rf, by rw [if_pos h_2]; exact h⟩
  · refine V_aload_n (pc := 5) C 0 dX3_mayOpen_5 rfl rfl ?_
    refine call_X3_52 (pc := 6) C (r_refuse (d := d - 1) hG h) (by omega) (wg hG (by decide) (by decide)) (Nat.le_of_ble_eq_true rfl) dX3_mayOpen_6 (fun M_6 h_6 => ?_)
    refine V_iload_n (pc := 9) C 1 dX3_mayOpen_9 rfl rfl ?_
    refine V_iconst (v := 5) (pc := 10) C dX3_mayOpen_10 (by decide) ?_
    refine V_icmp_ge (tgt := 18) (pc := 11) C dX3_mayOpen_11 (by decide) (fun h_11 => ?_) (fun h_11 => ?_)
    · refine V_iconst (v := 0) (pc := 18) C dX3_mayOpen_18 (by decide) ?_
      refine V_zret (pc := 19) C hr hlk rfl dX3_mayOpen_19 ⟨_, rfl, ?_⟩
      exact ⟨bI_f h_2, h_6.1, by rw [if_neg h_2]; exact h_6.2⟩
    · exact absurd h_2 (by (simp only [i32_eq, Int32.le_iff_toInt_le, Int32.lt_iff_toInt_lt, Int32.not_le, Int32.not_lt, Int32.toInt_add, Int32.toInt_sub, Int32.toInt_mul, Int32.toInt_neg, Int32.toInt_div, tdv2, tdv4, tdv10, tdv52, tdv100, nI_T, apply_ite Int32.toInt, Int.bmod, Int32.reduceToInt] at *; omega))
theorem r_put (hG : 30 ≤ G) {t : Nat} (ht : t < 6) {f : Nat → Int32} {z : Nat} {M : wS} {q : rS} {cur : List Int32} (h : rSt t f z M q cur) (v : Int32) : Ctr l D cy ad G d yX3_put cX3_put 3 none [.ref (ad 11 0), .ref (ad 8 t), .int v] M (rV fun M' => fr8 t M M' ∧ rSt t f z M' q (cat cur [v])) := by
  obtain ⟨⟨⟨a1, a2, a3, a4⟩, a5⟩, b1, b2, b3, b4, b5, b6, b7⟩ := h
  refine Ctr.weaken (c_X3_put hG M ht b6 b5 v) ?_
  rintro r M' ⟨hr, rfl⟩
  unfold kEmit
  by_cases hl : cur.length < 160
  · rw [if_pos hl, cat_1 v hl]
    have key : ∀ g i k, ¬ (g = 11 ∧ i = 0 ∧ k = 7) → ¬ (g = 8 ∧ i = t ∧ k = cur.length) → (mset (mset M 8 t cur.length v) 11 0 7 (nI cur.length + 1)).1 g i k = M.1 g i k := by
      intro g i k hn h2
      rw [mset_at, if_neg hn, mset_at, if_neg h2]
    refine ⟨hr, ⟨fun g i x y => funext fun j => key g i j (by omega) (by omega), rfl⟩, ⟨⟨?_, ?_, ?_, fun e => ?_⟩, ?_⟩, b1, ?_, b3, ?_, ?_, ?_, ?_⟩
    · rw [key _ _ _ (by omega) (by omega)]; exact a1
    · rw [key _ _ _ (by omega) (by omega)]; exact a2
    · rw [key _ _ _ (by omega) (by omega)]; exact a3
    · rw [key _ _ _ (by omega) (by omega)]; exact a4 e
    · rw [key _ _ _ (by omega) (by omega)]; exact a5
    · rw [key _ _ _ (by omega) (by omega)]; exact b2
    · funext j
      rw [key _ _ _ (by omega) (by omega), b4]
    · rw [List.length_append]
      simp only [List.length_cons, List.length_nil]
      omega
    · rw [mset_at, if_pos ⟨rfl, rfl, rfl⟩, nI_1, List.length_append]
      rfl
    · intro j hj
      rw [List.length_append] at hj
      simp only [List.length_cons, List.length_nil] at hj
      by_cases e : j = cur.length
      · subst e
        rw [mset_at, if_neg (by omega), mset_at, if_pos ⟨rfl, rfl, rfl⟩]
        simp
      · rw [key _ _ _ (by omega) (by omega), b7 j (by omega), List.getD_eq_getElem?_getD, List.getD_eq_getElem?_getD, List.getElem?_append_left (by omega)]
  · rw [if_neg hl, cat_full v (by omega)]
    exact ⟨hr, fr8.rf, ⟨⟨a1, a2, a3, a4⟩, a5⟩, b1, b2, b3, b4, b5, b6, b7⟩
end S44
