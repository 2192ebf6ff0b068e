/-! reading a TEXT: tokens, purely -/
def lxSk (f : Nat → Int32) : Nat → Nat → Nat
  | 0, a => a
  | n + 1, a => if f a = 32 ∨ f a = 10 then lxSk f n (a + 1) else a
def lxWd (f : Nat → Int32) : Nat → Nat → Nat
  | 0, a => a
  | n + 1, a => if 97 ≤ f a ∧ f a ≤ 122 then lxWd f n (a + 1) else a
def lxDg (f : Nat → Int32) : Nat → Nat → Nat
  | 0, a => a
  | n + 1, a => if 48 ≤ f a ∧ f a ≤ 57 then lxDg f n (a + 1) else a
def lxNv (f : Nat → Int32) : Nat → Nat → Int32 → Int32
  | 0, _, v => v
  | n + 1, a, v => if 48 ≤ f a ∧ f a ≤ 57 then lxNv f n (a + 1) (10 * v + f a - 48) else v
/-- the constant text i from place j on, n more of it, against the bytes from q on -/
def wdL (f : Nat → Int32) (q i : Nat) : Nat → Nat → Bool
  | 0, _ => true
  | n + 1, j => if f (q + j) = (wTby.getD i []).getD j 0 then wdL f q i n (j + 1) else false
def wIs (f : Nat → Int32) (q a i : Nat) : Bool := if a = q + wTlen.getD i 0 then wdL f q i (wTlen.getD i 0) 0 else false
def nmOf (f : Nat → Int32) (q a : Nat) : Int32 := if wIs f q a 1 = true then 0 else if wIs f q a 2 = true then 1 else if wIs f q a 3 = true then 2 else if wIs f q a 4 = true then 3 else if wIs f q a 5 = true then 4 else if wIs f q a 6 = true then 5 else -1
def kwOf (f : Nat → Int32) (q a : Nat) : Int32 := if wIs f q a 7 = true then 3 else if wIs f q a 8 = true then 4 else if wIs f q a 9 = true then 5 else if wIs f q a 10 = true then 6 else if wIs f q a 11 = true then 7 else if wIs f q a 12 = true then 8 else -1
/-- behind the TOKEN, its place, its kind, its number -/
def lxW (f : Nat → Int32) (q a : Nat) : Nat × Nat × Int32 × Int32 := if nmOf f q a = -1 then (a, q, kwOf f q a, 0) else (a, q, 2, -1 - nmOf f q a)
def lxD (f : Nat → Int32) (n q a : Nat) : Nat × Nat × Int32 × Int32 := if a - q ≤ 4 then (a, q, 1, lxNv f n q 0) else (a, q, -1, 0)
def lxP (f : Nat → Int32) (z q : Nat) : Nat × Nat × Int32 × Int32 := if z ≤ q then (q, q, 0, 0) else if 97 ≤ f q ∧ f q ≤ 122 then lxW f q (lxWd f (z - q) q) else if 48 ≤ f q ∧ f q ≤ 57 then lxD f (z - q) q (lxDg f (z - q) q) else (q + 1, q, if pSign (f q) = true then f q else -1, 0)
def lx (f : Nat → Int32) (z a : Nat) : Nat × Nat × Int32 × Int32 := lxP f z (lxSk f (z - a) a)
theorem lxSk_r (f : Nat → Int32) : ∀ n a, a ≤ lxSk f n a ∧ lxSk f n a ≤ a + n := by
  intro n
  induction n with
  | zero => intro a; exact ⟨Nat.le_refl _, Nat.le_refl _⟩
  | succ n ih =>
    intro a
    have h := ih (a + 1)
    unfold lxSk
    split <;> omega
theorem lxWd_r (f : Nat → Int32) : ∀ n a, a ≤ lxWd f n a ∧ lxWd f n a ≤ a + n := by
  intro n
  induction n with
  | zero => intro a; exact ⟨Nat.le_refl _, Nat.le_refl _⟩
  | succ n ih =>
    intro a
    have h := ih (a + 1)
    unfold lxWd
    split <;> omega
theorem lxDg_r (f : Nat → Int32) : ∀ n a, a ≤ lxDg f n a ∧ lxDg f n a ≤ a + n := by
  intro n
  induction n with
  | zero => intro a; exact ⟨Nat.le_refl _, Nat.le_refl _⟩
  | succ n ih =>
    intro a
    have h := ih (a + 1)
    unfold lxDg
    split <;> omega
theorem mset_id (M : wS) {g i k : Nat} {x : Int32} (h : M.1 g i k = x) : mset M g i k x = M := by
  refine Prod.ext ?_ rfl
  funext g' i' j
  rw [mset_at]
  split
  · next e =>
    obtain ⟨rfl, rfl, rfl⟩ := e
    exact h.symm
  · rfl
theorem mset_mset (M : wS) (g i k : Nat) (x y : Int32) : mset (mset M g i k x) g i k y = mset M g i k y := by
  refine Prod.ext ?_ rfl
  funext g' i' j
  rw [mset_at, mset_at, mset_at]
  split <;> rfl
/-- nothing but the reader's place and TOKEN has changed -/
def rLx (M M' : wS) : Prop := (∀ g i, g ≠ 11 → M'.1 g i = M.1 g i) ∧ M'.2 = M.2 ∧ ∀ k, k ≠ 2 → k ≠ 3 → k ≠ 4 → k ≠ 5 → M'.1 11 0 k = M.1 11 0 k
theorem rLx.rf {M : wS} : rLx M M := ⟨fun _ _ _ => rfl, rfl, fun _ _ _ _ _ => rfl⟩
theorem rLx.tr {M M1 M2 : wS} (h : rLx M M1) (h2 : rLx M1 M2) : rLx M M2 := ⟨fun g i a => (h2.1 g i a).trans (h.1 g i a), h2.2.1.trans h.2.1, fun k a b c d => (h2.2.2 k a b c d).trans (h.2.2 k a b c d)⟩
theorem rLx.set {M : wS} {k : Nat} (x : Int32) (hk : k = 2 ∨ k = 3 ∨ k = 4 ∨ k = 5) : rLx M (mset M 11 0 k x) := by
  refine ⟨fun g i h => ?_, rfl, fun j a b c d => ?_⟩
  · funext j
    rw [mset_at, if_neg (fun e => h e.1)]
  · rw [mset_at, if_neg (fun e => by omega)]
section S42
variable {l : Launch} {D : va_G} {cy : Nat → ClassId} {ad : Nat → Nat → Nat} {G d : Nat}
theorem nI_sub0 {a q n : Nat} (h : q ≤ a) (ha : a < 2 ^ 31) (hn : n < 2 ^ 31) : nI a - nI q = nI n ↔ a = q + n := by
  have e : nI a - nI q = nI (a - q) := by
    have e2 := nI_add (a - q) q
    rw [Nat.sub_add_cancel h] at e2
    rw [← e2]
    exact Int32.add_sub_cancel _ _
  rw [e, nI_eq (by omega) hn]
  omega
theorem lp_X3_stands {p : Program} {e : Env} {s : State} {m : MethodId} {args : Array Value} {below : List Frame} {meth : Method} {c : Code} (C : CX p s m args c cX3_stands 3 "CostsAge$Reader" D cy ad G (wA ad G) (Rm d) d 0 0) (hr : meth.sig.returnType = (some .boolean)) (hlk : meth.locks = false) (hG : 30 ≤ G) (hd : 4 ≤ d) (M : wS) {i : Nat} (hi : i < 13) {q : Nat} (hq : M.1 11 0 3 = nI q) (hw : q + wTlen.getD i 0 ≤ 160) (Qf : Int32 → wS → Prop) : ∀ (n j : Nat), j + n = wTlen.getD i 0 → Qf (bI (wdL (M.1 12 0) q i n j = true)) M → V p l e (Rm d) s m args below meth c 3 D cy ad G (wA ad G) 0 0 (MQ below (wQ D cy ad G (rI Qf)) args s 0 0 (wA ad G)) 20 [(0, .ref (ad 11 0)), (1, .ref (ad 61 i)), (2, .int (nI j))] [] M := by
  intro n
  induction n with
  | zero =>
    intro j hj hQ
    refine V_iload_n (pc := 20) C 2 dX3_stands_20 rfl rfl ?_
    refine V_aload_n (pc := 21) C 1 dX3_stands_21 rfl rfl ?_
    refine call_X3_133 (pc := 22) C (c_J0_length (d := d - 1) (by omega) M hi) (by omega) hi (Nat.le_of_ble_eq_true rfl) dX3_stands_22 (fun x_22 M_22 h_22 => ?_)
    obtain ⟨e_22, rfl⟩ := h_22
    have e_22 := e_22.symm
    subst e_22
    refine V_icmp_ge (tgt := 55) (pc := 25) C dX3_stands_25 (by decide) (fun h_25 => ?_) (fun h_25 => ?_)
    · refine V_iconst (v := 1) (pc := 55) C dX3_stands_55 (by decide) ?_
      refine V_zret (pc := 56) C hr hlk rfl dX3_stands_56 ⟨_, rfl, ?_⟩
      exact hQ
    · exact absurd (nI_le (by omega) (by omega)) h_25
  | succ n ih =>
    intro j hj hQ
    unfold wdL at hQ
    refine V_iload_n (pc := 20) C 2 dX3_stands_20 rfl rfl ?_
    refine V_aload_n (pc := 21) C 1 dX3_stands_21 rfl rfl ?_
    refine call_X3_133 (pc := 22) C (c_J0_length (d := d - 1) (by omega) M hi) (by omega) hi (Nat.le_of_ble_eq_true rfl) dX3_stands_22 (fun x_22 M_22 h_22 => ?_)
    obtain ⟨e_22, rfl⟩ := h_22
    have e_22 := e_22.symm
    subst e_22
    refine V_icmp_ge (tgt := 55) (pc := 25) C dX3_stands_25 (by decide) (fun h_25 => ?_) (fun h_25 => ?_)
    · exact absurd h_25 (nI_ge (by omega) (by omega))
    · refine V_aload_n (pc := 28) C 0 dX3_stands_28 rfl rfl ?_
      refine get_X3_9 (pc := 29) C (wg hG (by decide) (by decide)) dX3_stands_29 ?_
      refine V_aload_n (pc := 32) C 0 dX3_stands_32 rfl rfl ?_
      refine get_X3_88 (pc := 33) C (wg hG (by decide) (by decide)) dX3_stands_33 ?_
      refine V_iload_n (pc := 36) C 2 dX3_stands_36 rfl rfl ?_
      refine V_iadd (pc := 37) C dX3_stands_37 ?_
      refine V_iald (pc := 38) C (q + j) (by rw [hq, nI_add]) (by omega) (Nat.le_of_ble_eq_true rfl) (wg hG (by decide) (by decide)) wF_12 dX3_stands_38 ?_
      refine V_aload_n (pc := 39) C 1 dX3_stands_39 rfl rfl ?_
      refine V_iload_n (pc := 40) C 2 dX3_stands_40 rfl rfl ?_
      refine call_X3_138 (pc := 41) C (c_J0_charAt (d := d - 1) (by omega) M hi (j := j) (by omega)) (by omega) hi (Nat.le_of_ble_eq_true rfl) dX3_stands_41 (fun x_41 M_41 h_41 => ?_)
      obtain ⟨e_41, rfl⟩ := h_41
      have e_41 := e_41.symm
      subst e_41
      refine V_icmp_eq (tgt := 49) (pc := 44) C dX3_stands_44 (by decide) (fun h_44 => ?_) (fun h_44 => ?_)
      · rw [if_pos h_44] at hQ
        refine Vs_iinc (v := nI (j + 1)) (lv' := [(0, _), (1, _), (2, _)]) (pc := 49) C 2 dX3_stands_49 rfl (by decide) rfl (nI_i1 (j)) rfl ?_
        refine V_goto (tgt := 20) (pc := 52) C dX3_stands_52 (by decide) ?_
        exact ih (j + 1) (by omega) hQ
      · rw [if_neg h_44] at hQ
        refine V_iconst (v := 0) (pc := 47) C dX3_stands_47 (by decide) ?_
        refine V_zret (pc := 48) C hr hlk rfl dX3_stands_48 ⟨_, rfl, ?_⟩
        exact hQ
theorem c_X3_stands (hG : 30 ≤ G) (hd : 4 ≤ d) (M : wS) {f : Nat → Int32} (hf : M.1 12 0 = f) {i : Nat} (hi : i < 13) {q a : Nat} (hq : M.1 11 0 3 = nI q) (ha : M.1 11 0 2 = nI a) (hqa : q ≤ a) (ha1 : a ≤ 160) : Ctr l D cy ad G d yX3_stands cX3_stands 3 (some .boolean) [.ref (ad 11 0), .ref (ad 61 i)] M (rI fun x M' => M' = M ∧ x = bI (wIs f q a i = true)) := by
  have hl := wTlen_le i hi
  subst hf
  refine Ctr.of (lv0 := [(0, _), (1, _)]) (by decide) (Nat.le_of_ble_eq_true rfl) rfl ?_
  intro p e s m args below meth c C hr hlk _
  have C : CX p s m args c cX3_stands 3 "CostsAge$Reader" D cy ad G (wA ad G) (Rm d) d 0 0 := C
  refine V_aload_n (pc := 0) C 0 dX3_stands_0 rfl rfl ?_
  refine get_X3_19 (pc := 1) C (wg hG (by decide) (by decide)) dX3_stands_1 ?_
  refine V_aload_n (pc := 4) C 0 dX3_stands_4 rfl rfl ?_
  refine get_X3_88 (pc := 5) C (wg hG (by decide) (by decide)) dX3_stands_5 ?_
  refine V_isub (pc := 8) C dX3_stands_8 ?_
  refine V_aload_n (pc := 9) C 1 dX3_stands_9 rfl rfl ?_
  refine call_X3_133 (pc := 10) C (c_J0_length (d := d - 1) (by omega) M hi) (by omega) hi (Nat.le_of_ble_eq_true rfl) dX3_stands_10 (fun x_10 M_10 h_10 => ?_)
  obtain ⟨e_10, rfl⟩ := h_10
  have e_10 := e_10.symm
  subst e_10
  refine V_icmp_eq (tgt := 18) (pc := 13) C dX3_stands_13 (by decide) (fun h_13 => ?_) (fun h_13 => ?_)
  · rw [hq, ha, nI_sub0 hqa (by omega) (by omega)] at h_13
    refine V_iconst (v := 0) (pc := 18) C dX3_stands_18 (by decide) ?_
    refine Vs_istore_n (lv' := [(0, _), (1, _), (2, _)]) (pc := 19) C dX3_stands_19 rfl (by decide) rfl rfl ?_
    exact lp_X3_stands C hr hlk hG hd M hi hq (by omega) _ (wTlen.getD i 0) 0 (by omega) ⟨rfl, by rw [wIs, if_pos h_13]⟩
  · rw [hq, ha, nI_sub0 hqa (by omega) (by omega)] at h_13
    refine V_iconst (v := 0) (pc := 16) C dX3_stands_16 (by decide) ?_
    refine V_zret (pc := 17) C hr hlk rfl dX3_stands_17 ⟨_, rfl, ?_⟩
    exact ⟨rfl, bI_f (by rw [wIs, if_neg h_13]; exact Bool.false_ne_true)⟩
end S42
