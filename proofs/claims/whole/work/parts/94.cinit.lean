/-! the class's constructor, from where all its objects stand -/
def M00 : wS := (fun g _ k => match g with | 9 => if k = 1 then -1 else 0 | 13 => if k = 2 then -1 else 0 | _ => 0, 0)
def bF (k : Nat) : Int32 := (wTby.getD 0 []).getD k 0
def fB (t : Nat) : Nat → Int32 := fun k => if k < t then bF k else 0
def LI (t : Nat) (M : wS) : Prop := (∀ g i k, g ≠ 12 → ¬ (g = 11 ∧ k = 1) → ¬ (g = 26 ∧ i = 0 ∧ k = 7) → M.1 g i k = M00.1 g i k) ∧ M.1 26 0 7 = 9 ∧ M.1 11 0 1 = nI t ∧ M.1 12 0 = fB t
/-- what the class's constructor leaves -/
def IC (M : wS) : Prop := (∀ g i k, g ≠ 7 → g ≠ 8 → g ≠ 11 → g ≠ 12 → g ≠ 13 → ¬ (g = 26 ∧ i = 0 ∧ k = 7) → ¬ (g = 0 ∧ i = 0 ∧ k = 13) → M.1 g i k = M00.1 g i k) ∧ M.1 26 0 7 = 9 ∧ M.1 0 0 13 = 1 ∧ M.1 11 0 1 = 0 ∧
  (M.1 7 0 1 = nI (cC1 (fB 51) 51).length ∧ M.1 7 0 2 = nI (cC2 (fB 51) 51).length ∧ M.1 7 0 3 = nI (cC3 (fB 51) 51).length) ∧ ∀ j, j < (cC3 (fB 51) 51).length → M.1 8 0 j = (cC3 (fB 51) 51).getD j 0
theorem IC.of {M M1 : wS} (h : LI 51 M) (h1 : cOutL 0 M M1 (cC1 (fB 51) 51) (cC2 (fB 51) 51) (cC3 (fB 51) 51)) : IC (mset M1 0 0 13 1) := by
  obtain ⟨⟨k1, k2⟩, k3, k4, k5, k6, k7⟩ := h1
  refine ⟨fun g i k a b c' d' e' f' g' => ?_, ?_, ?_, ?_, ⟨?_, ?_, ?_⟩, fun j hj => ?_⟩
  · rw [mset_at, if_neg (by omega), k1 g i c' (by omega) (by omega)]
    exact h.1 g i k d' (by omega) f'
  · rw [mset_at, if_neg (by omega), k1 26 0 (by decide) (by omega) (by omega)]
    exact h.2.1
  · rw [mset_at, if_pos ⟨rfl, rfl, rfl⟩]
  · rw [mset_at, if_neg (by omega)]; exact k3
  · rw [mset_at, if_neg (by omega)]; exact k4
  · rw [mset_at, if_neg (by omega)]; exact k5
  · rw [mset_at, if_neg (by omega)]; exact k6
  · rw [mset_at, if_neg (by omega)]; exact k7 j hj
theorem LI.app {M M' : wS} {t : Nat} (h : LI t M) (h' : M' = kApp M t (bF t)) : LI (t + 1) M' := by
  subst h'
  refine ⟨fun g i k a b c' => ?_, ?_, ?_, ?_⟩
  · rw [kApp, mset_at, if_neg (by omega), mset_at, if_neg (by omega)]
    exact h.1 g i k a b c'
  · rw [kApp, mset_at, if_neg (by omega), mset_at, if_neg (by omega)]
    exact h.2.1
  · rw [kApp, mset_at, if_pos ⟨rfl, rfl, rfl⟩, nI_1]
  · funext k
    rw [kApp, mset_at, if_neg (by omega), mset_at]
    by_cases e : k = t
    · rw [if_pos ⟨rfl, rfl, e⟩, e]
      unfold fB
      rw [if_pos (by omega)]
    · rw [if_neg (by omega), h.2.2.2]
      unfold fB
      by_cases e2 : k < t
      · rw [if_pos e2, if_pos (by omega)]
      · rw [if_neg e2, if_neg (by omega)]
section S94
variable {p : Program} {l : Launch} {e : Env} {R : Room} {s : State} {m : MethodId} {args : Array Value} {below : List Frame} {meth : Method} {c : Code} {D : va_G} {cy : Nat → ClassId} {ad : Nat → Nat → Nat} {A : Nat → Prop} {cells slots d : Nat} {Q : State → Prop}
theorem v1_X9_init (C : CX p s m args c cX9_init 2 "CostsAge" D cy ad 30 A R d cells slots) (hd : 46 ≤ d) (w : Int32) {M : wS} (h : LI 51 M) (k : ∀ M', IC M' → V p l e R s m args below meth c 2 D cy ad 30 A cells slots Q 271 [(0, .ref (ad 0 0)), (1, .int w)] [] M') : V p l e R s m args below meth c 2 D cy ad 30 A cells slots Q 252 [(0, .ref (ad 0 0)), (1, .int w)] [] M := by
  have hG : 30 ≤ 30 := Nat.le_refl 30
  refine V_aload_n (pc := 252) C 0 dX9_init_252 rfl rfl ?_
  refine get_X9_36 (pc := 253) C (wg hG (by decide) (by decide)) dX9_init_253 ?_
  refine V_aload_n (pc := 256) C 0 dX9_init_256 rfl rfl ?_
  refine get_X9_23 (pc := 257) C (wg hG (by decide) (by decide)) dX9_init_257 ?_
  refine V_iconst (v := 0) (pc := 260) C dX9_init_260 (by decide) ?_
  refine V_aald (pc := 261) C (0) (by decide) (by decide) (Nat.le_of_ble_eq_true rfl) (wg hG (by decide) (by decide)) wF_3 rfl dX9_init_261 ?_
  refine call_X9_95 (pc := 262) C (c_X3_compile (d := d - 1) hG (by omega) (t := 0) (by decide) M h.2.2.2 h.2.2.1 (by decide)) (by omega) (wg hG (by decide) (by decide)) (Nat.le_of_ble_eq_true rfl) dX9_init_262 (fun x_262 M_262 h_262 => ?_)
  obtain ⟨w1, w2⟩ := h_262
  refine V_pop (pc := 265) C dX9_init_265 rfl ?_
  refine V_aload_n (pc := 266) C 0 dX9_init_266 rfl rfl ?_
  refine V_iconst (v := 1) (pc := 267) C dX9_init_267 (by decide) ?_
  refine put_X9_99 (pc := 268) C (wg hG (by decide) (by decide)) dX9_init_268 ?_
  exact k _ (IC.of h w2)
theorem v2_X9_init (C : CX p s m args c cX9_init 2 "CostsAge" D cy ad 30 A R d cells slots) (hd : 46 ≤ d) (k : ∀ w M', IC M' → V p l e R s m args below meth c 2 D cy ad 30 A cells slots Q 271 [(0, .ref (ad 0 0)), (1, .int w)] [] M') : ∀ (n t : Nat) (M : wS), t + n = 51 → LI t M → V p l e R s m args below meth c 2 D cy ad 30 A cells slots Q 223 [(0, .ref (ad 0 0)), (1, .int (nI t))] [] M := by
  have hG : 30 ≤ 30 := Nat.le_refl 30
  intro n
  induction n with
  | zero =>
    intro t M ht h
    obtain rfl : t = 51 := by omega
    refine V_iload_n (pc := 223) C 1 dX9_init_223 rfl rfl ?_
    refine V_ldcS (i := 0) (pc := 224) C rfl dX9_init_224 ?_
    refine call_X9_81 (pc := 226) C (c_J0_length (d := d - 1) (by omega) M (i := 0) (by decide)) (by omega) (by decide) (Nat.le_of_ble_eq_true rfl) dX9_init_226 (fun x_226 M_226 h_226 => ?_)
    obtain ⟨e_226, rfl⟩ := h_226
    have e_226 := e_226.symm
    subst e_226
    refine V_icmp_ge (tgt := 252) (pc := 229) C dX9_init_229 (by decide) (fun h_229 => ?_) (fun h_229 => ?_)
    · exact v1_X9_init C hd _ h (fun M' h' => k _ M' h')
    · exact absurd (by decide) h_229
  | succ n ih =>
    intro t M ht h
    refine V_iload_n (pc := 223) C 1 dX9_init_223 rfl rfl ?_
    refine V_ldcS (i := 0) (pc := 224) C rfl dX9_init_224 ?_
    refine call_X9_81 (pc := 226) C (c_J0_length (d := d - 1) (by omega) M (i := 0) (by decide)) (by omega) (by decide) (Nat.le_of_ble_eq_true rfl) dX9_init_226 (fun x_226 M_226 h_226 => ?_)
    obtain ⟨e_226, rfl⟩ := h_226
    have e_226 := e_226.symm
    subst e_226
    refine V_icmp_ge (tgt := 252) (pc := 229) C dX9_init_229 (by decide) (fun h_229 => ?_) (fun h_229 => ?_)
    · exact absurd h_229 (nI_ge (b := 51) (by omega) (by decide))
    · refine V_aload_n (pc := 232) C 0 dX9_init_232 rfl rfl ?_
      refine get_X9_36 (pc := 233) C (wg hG (by decide) (by decide)) dX9_init_233 ?_
      refine V_ldcS (i := 0) (pc := 236) C rfl dX9_init_236 ?_
      refine V_iload_n (pc := 238) C 1 dX9_init_238 rfl rfl ?_
      refine call_X9_87 (pc := 239) C (c_J0_charAt (d := d - 1) (by omega) M (i := 0) (by decide) (j := t) (show t < 51 by omega)) (by omega) (by decide) (Nat.le_of_ble_eq_true rfl) dX9_init_239 (fun x_239 M_239 h_239 => ?_)
      obtain ⟨e_239, rfl⟩ := h_239
      have e_239 := e_239.symm
      subst e_239
      refine call_X9_91 (pc := 242) C (c_X3_append (d := d - 1) hG M h.2.2.1 (by omega) (bF t)) (by omega) (wg hG (by decide) (by decide)) (Nat.le_of_ble_eq_true rfl) dX9_init_242 (fun x_242 M_242 h_242 => ?_)
      obtain ⟨w1, w2⟩ := h_242
      rw [if_pos (by omega)] at w1
      refine V_pop (pc := 245) C dX9_init_245 rfl ?_
      refine Vs_iinc (v := nI (t + 1)) (lv' := [(0, _), (1, _)]) (pc := 246) C 1 dX9_init_246 rfl (by decide) rfl (nI_i1 (t)) rfl ?_
      refine V_goto (tgt := 223) (pc := 249) C dX9_init_249 (by decide) ?_
      exact ih (t + 1) _ (by omega) (h.app w1)
theorem v_X9_init (C : CX p s m args c cX9_init 2 "CostsAge" D cy ad 30 A R d cells slots) (hd : 46 ≤ d) (w : Int32) (k : ∀ w M', IC M' → V p l e R s m args below meth c 2 D cy ad 30 A cells slots Q 271 [(0, .ref (ad 0 0)), (1, .int w)] [] M') : V p l e R s m args below meth c 2 D cy ad 30 A cells slots Q 212 [(0, .ref (ad 0 0)), (1, .int w)] [] M00 := by
  have hG : 30 ≤ 30 := Nat.le_refl 30
  refine V_aload_n (pc := 212) C 0 dX9_init_212 rfl rfl ?_
  refine get_X9_64 (pc := 213) C (wg hG (by decide) (by decide)) dX9_init_213 ?_
  refine V_bipush (v := 9) (pc := 216) C dX9_init_216 (by decide) ?_
  refine put_X9_75 (pc := 218) C (wg hG (by decide) (by decide)) dX9_init_218 ?_
  refine V_iconst (v := 0) (pc := 221) C dX9_init_221 (by decide) ?_
  refine Vs_istore_n (lv' := [(0, _), (1, _)]) (pc := 222) C dX9_init_222 rfl (by decide) rfl rfl ?_
  refine v2_X9_init C hd k 51 0 _ (by decide) ⟨fun g i k a b c' => ?_, ?_, ?_, ?_⟩
  · rw [mset_at, if_neg (by omega)]
  · rw [mset_at, if_pos ⟨rfl, rfl, rfl⟩]
  · rw [mset_at, if_neg (by omega)]
    rfl
  · funext k
    rw [mset_at, if_neg (by omega)]
    unfold fB
    rw [if_neg (Nat.not_lt_zero k)]
    rfl
end S94
