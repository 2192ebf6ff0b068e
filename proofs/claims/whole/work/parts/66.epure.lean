/-! EACH ONE: thing by thing is crew by crew -/
def eAt (c2 : Nat → Nat → Option Nat) (O nb : Nat) : Nat → Nat → Option Nat
  | 0 => fun K => if K = 0 then some 0 else none
  | t + 1 => fun K => if O.testBit t then eCellF (fun b => c2 b t) (eAt c2 O nb t) K 0 nb none else eAt c2 O nb t K
def pcb (O : Nat) : Nat → Nat
  | 0 => 0
  | t + 1 => pcb O t + if O.testBit t then 1 else 0
theorem eCellF_congr {c : Nat → Option Nat} {T T' : Nat → Option Nat} {K : Nat} : ∀ (n b : Nat) (cur : Option Nat), (∀ j, b ≤ j → j < b + n → K.testBit j = true → T (K ^^^ 2 ^ j) = T' (K ^^^ 2 ^ j)) → eCellF c T K b n cur = eCellF c T' K b n cur := by
  intro n
  induction n with
  | zero => intro b cur _; rfl
  | succ n ih =>
    intro b cur h
    unfold eCellF
    by_cases e : K.testBit b = true
    · rw [if_pos e, if_pos e, h b (Nat.le_refl _) (by omega) e]
      exact ih (b + 1) _ (fun j h1 h2 => h j (by omega) (by omega))
    · rw [if_neg e, if_neg e]
      exact ih (b + 1) _ (fun j h1 h2 => h j (by omega) (by omega))
theorem mAdd_n1 {cur y : Option Nat} : mAdd cur none y = cur := by
  unfold mAdd
  rfl
theorem mAdd_n2 {cur x : Option Nat} : mAdd cur x none = cur := by
  unfold mAdd
  cases x <;> rfl
theorem eCellF_none {c : Nat → Option Nat} {T : Nat → Option Nat} {K : Nat} : ∀ (n b : Nat) (cur : Option Nat), (∀ j, b ≤ j → j < b + n → K.testBit j = true → T (K ^^^ 2 ^ j) = none) → eCellF c T K b n cur = cur := by
  intro n
  induction n with
  | zero => intro b cur _; rfl
  | succ n ih =>
    intro b cur h
    unfold eCellF
    by_cases e : K.testBit b = true
    · rw [if_pos e, h b (Nat.le_refl _) (by omega) e, mAdd_n1]
      exact ih (b + 1) _ (fun j h1 h2 => h j (by omega) (by omega))
    · rw [if_neg e]
      exact ih (b + 1) _ (fun j h1 h2 => h j (by omega) (by omega))
theorem eCellF_app {c : Nat → Option Nat} {T : Nat → Option Nat} {K : Nat} : ∀ (n m b : Nat) (cur : Option Nat), eCellF c T K b (n + m) cur = eCellF c T K (b + n) m (eCellF c T K b n cur) := by
  intro n
  induction n with
  | zero => intro m b cur; rw [Nat.zero_add, Nat.add_zero]; rfl
  | succ n ih =>
    intro m b cur
    rw [show n + 1 + m = (n + m) + 1 by omega]
    show eCellF c T K (b + 1) (n + m) _ = eCellF c T K (b + (n + 1)) m (eCellF c T K (b + 1) n _)
    rw [ih, show b + 1 + n = b + (n + 1) by omega]
theorem eCellF_snoc {c : Nat → Option Nat} {T : Nat → Option Nat} {K n : Nat} {cur : Option Nat} : eCellF c T K 0 (n + 1) cur = if K.testBit n then mAdd (eCellF c T K 0 n cur) (T (K ^^^ 2 ^ n)) (c n) else eCellF c T K 0 n cur := by
  rw [eCellF_app, Nat.zero_add]
  rfl
theorem pc_bit : ∀ K, K < 128 → ∀ b, b < 7 → K.testBit b = true → pc7 (K ^^^ 2 ^ b) + 1 = pc7 K ∧ K ^^^ 2 ^ b < K := by decide +kernel
theorem bitAt_pcb : ∀ O, O < 128 → ∀ t, t < 7 → O.testBit t = true → bitAt O (pcb O t + 1) = t ∧ pcb O t + 1 ≤ pc7 O := by decide +kernel
def pcbChk (nt O : Nat) : Bool := !(Nat.blt O (2 ^ nt)) || (pcb O nt == pc7 O)
theorem pcb_chk : ∀ nt, nt < 8 → ∀ O, O < 128 → pcbChk nt O = true := by decide +kernel
theorem pcb_all {nt O : Nat} (hnt : nt ≤ 7) (hO : O < 2 ^ nt) (hO7 : O < 128) : pcb O nt = pc7 O := by
  have h := pcb_chk nt (by omega) O hO7
  unfold pcbChk at h
  rw [Bool.or_eq_true, beq_iff_eq] at h
  refine h.resolve_left (fun e => ?_)
  rw [Bool.not_eq_true'] at e
  have : Nat.blt O (2 ^ nt) = true := Nat.ble_eq.mpr hO
  rw [e] at this
  exact absurd this (by decide)
theorem eTab_self {c2 : Nat → Nat → Option Nat} {O m nb K : Nat} (hK : K < 128) : eTab c2 O m nb 128 K = eNew c2 (eTab c2 O m nb K) O m nb K := by
  rw [eTab_lt 128 hK]
  show (if K = K then _ else _) = _
  rw [if_pos rfl]
theorem eAt_is {c2 : Nat → Nat → Option Nat} {O nb : Nat} (hO : O < 128) (hnb : nb ≤ 7) : ∀ t, t ≤ 7 → ∀ K, K < 128 → eAt c2 O nb t K = if pc7 K = pcb O t then eTab c2 O (pc7 O) nb 128 K else none := by
  intro t
  induction t with
  | zero =>
    intro _ K hK
    have hp := pc7_lt K hK
    show (if K = 0 then some 0 else none) = if pc7 K = 0 then _ else none
    by_cases e : K = 0
    · rw [if_pos e, if_pos (hp.2.mpr e), eTab_self hK, eNew, if_pos e]
    · rw [if_neg e, if_neg (fun z => e (hp.2.mp z))]
  | succ t ih =>
    intro ht K hK
    have ih := ih (by omega)
    show (if O.testBit t then eCellF (fun b => c2 b t) (eAt c2 O nb t) K 0 nb none else eAt c2 O nb t K) = if pc7 K = pcb O t + (if O.testBit t then 1 else 0) then _ else none
    by_cases hb : O.testBit t = true
    · rw [if_pos hb, if_pos hb]
      obtain ⟨g1, g2⟩ := bitAt_pcb O hO t (by omega) hb
      by_cases e : pc7 K = pcb O t + 1
      · have hK0 : ¬ K = 0 := fun z => by
          have := (pc7_lt K hK).2.mpr z
          omega
        rw [if_pos e, eTab_self hK, eNew, if_neg hK0, if_pos (by omega), e, g1]
        refine eCellF_congr nb 0 none (fun j _ hj hbj => ?_)
        have hx := pc_bit K hK j (by omega) hbj
        rw [ih (K ^^^ 2 ^ j) (by omega), if_pos (by omega), eTab_lt 128 (by omega), ← eTab_lt K hx.2]
      · rw [if_neg e]
        refine eCellF_none nb 0 none (fun j _ hj hbj => ?_)
        have hx := pc_bit K hK j (by omega) hbj
        rw [ih (K ^^^ 2 ^ j) (by omega), if_neg (by omega)]
    · rw [if_neg hb, if_neg hb, Nat.add_zero]
      exact ih K hK
theorem hi_bit : ∀ nb, nb < 8 → ∀ K, K < 128 → ∀ b, b < nb → (2 ^ nb ≤ K → 2 ^ nb ≤ K ^^^ 2 ^ b) := by decide +kernel
theorem eTab_hi {c2 : Nat → Nat → Option Nat} {O m nb : Nat} (hnb : nb ≤ 7) : ∀ n K, K < n → K < 128 → 2 ^ nb ≤ K → eTab c2 O m nb 128 K = none := by
  intro n
  induction n with
  | zero => intro K h; omega
  | succ n ih =>
    intro K hn hK h2
    have hp : 0 < 2 ^ nb := Nat.two_pow_pos nb
    rw [eTab_self hK, eNew, if_neg (by omega)]
    by_cases e : pc7 K ≤ m
    · rw [if_pos e]
      refine eCellF_none nb 0 none (fun j _ hj hbj => ?_)
      have hx := pc_bit K hK j (by omega) hbj
      rw [eTab_lt K hx.2, ← eTab_lt 128 (by omega)]
      exact ih (K ^^^ 2 ^ j) (by omega) (by omega) (hi_bit nb (by omega) K hK j (by omega) h2)
    · rw [if_neg e]
def mFold (E : Nat → Option Nat) : Nat → Nat → Option Nat → Option Nat
  | 0, _, cur => cur
  | n + 1, K, cur => mFold E n (K + 1) (minO cur (E K))
theorem minO_n {cur : Option Nat} : minO cur none = cur := rfl
theorem mFold_app {E : Nat → Option Nat} : ∀ (n m K : Nat) (cur : Option Nat), mFold E (n + m) K cur = mFold E m (K + n) (mFold E n K cur) := by
  intro n
  induction n with
  | zero => intro m K cur; rw [Nat.zero_add, Nat.add_zero]; rfl
  | succ n ih =>
    intro m K cur
    rw [show n + 1 + m = (n + m) + 1 by omega]
    show mFold E (n + m) (K + 1) _ = mFold E m (K + (n + 1)) (mFold E n (K + 1) _)
    rw [ih, show K + 1 + n = K + (n + 1) by omega]
theorem mFold_none {E : Nat → Option Nat} : ∀ (n K : Nat) (cur : Option Nat), (∀ j, K ≤ j → j < K + n → E j = none) → mFold E n K cur = cur := by
  intro n
  induction n with
  | zero => intro K cur _; rfl
  | succ n ih =>
    intro K cur h
    unfold mFold
    rw [h K (Nat.le_refl _) (by omega), minO_n]
    exact ih (K + 1) cur (fun j h1 h2 => h j (by omega) (by omega))
theorem mFold_best {E T : Nat → Option Nat} {m : Nat} : ∀ (n K : Nat) (cur : Option Nat), (∀ j, K ≤ j → j < K + n → E j = if pc7 j = m then T j else none) → mFold E n K cur = eBest T m n K cur := by
  intro n
  induction n with
  | zero => intro K cur _; rfl
  | succ n ih =>
    intro K cur h
    unfold mFold eBest
    rw [h K (Nat.le_refl _) (by omega), ih (K + 1) _ (fun j h1 h2 => h j (by omega) (by omega))]
    by_cases e : pc7 K = m
    · rw [if_pos e, if_pos e]
    · rw [if_neg e, if_neg e, minO_n]
theorem each_eq {c2 : Nat → Nat → Option Nat} {O nb nt : Nat} (hnb : nb ≤ 7) (hnt : nt ≤ 7) (hO : O < 2 ^ nt) (hO7 : O < 128) : mFold (eAt c2 O nb nt) 128 0 none = eBest (eTab c2 O (pc7 O) nb 128) (pc7 O) (2 ^ nb) 0 none := by
  have h2 : 2 ^ nb ≤ 128 := pow8 nb (by omega)
  have hE := eAt_is (c2 := c2) hO7 hnb nt hnt
  rw [pcb_all hnt hO hO7] at hE
  rw [show (128 : Nat) = 2 ^ nb + (128 - 2 ^ nb) by omega, mFold_app, mFold_none]
  · rw [← show (128 : Nat) = 2 ^ nb + (128 - 2 ^ nb) by omega]
    exact mFold_best (2 ^ nb) 0 none (fun j _ hj => hE j (by omega))
  · intro j h1 h3
    rw [hE j (by omega)]
    by_cases e : pc7 j = pc7 O
    · rw [if_pos e]
      exact eTab_hi hnb 128 j (by omega) (by omega) (by omega)
    · rw [if_neg e]
