theorem sub_n {n e : Nat} (h : n < 1000) (he : e < n) : nI n - 1 - nI e = nI (n - 1 - e) := by
  apply Int32.toInt_inj.mp
  rw [show (1 : Int32) = nI 1 from rfl, sub_tt h (by decide) (by omega), nI_t (by omega)]
  omega
section S84
variable {l : Launch} {D : va_G} {cy : Nat → ClassId} {ad : Nat → Nat → Nat} {G d : Nat}
theorem lp_X10_copy_up {p : Program} {e : Env} {s : State} {m : MethodId} {args : Array Value} {below : List Frame} {meth : Method} {c : Code} (C : CX p s m args c cX10_copy 9 "CostsAgeModel" D cy ad G (wA ad G) (Rm d) d 0 0) (hr : meth.sig.returnType = (some .int)) (hlk : meth.locks = false) (hG : 56 ≤ G) {Ms : wS} {a i b j nn src dst : Nat} (ha : a < 4) (hb : b < 4) (hi : i + nn ≤ 40) (hj : j + nn ≤ 40) (hsrc : src = 40 * a + i) (hdst : dst = 40 * b + j) (ho : src + nn ≤ dst ∨ dst ≤ src ∨ dst + nn ≤ src) (Qf : Int32 → wS → Prop) : ∀ (n k : Nat) (M : wS), k + n = nn → (∀ g x q, g ≠ 55 → M.1 g x q = Ms.1 g x q) → (∀ q, M.1 55 0 q = if (dst ≤ q ∧ q < dst + k) then Ms.1 55 0 (q + src - dst) else Ms.1 55 0 q) → (∀ M', (∀ g x q, g ≠ 55 → M'.1 g x q = Ms.1 g x q) → (∀ q, M'.1 55 0 q = if dst ≤ q ∧ q < dst + nn then Ms.1 55 0 (q + src - dst) else Ms.1 55 0 q) → Qf (nI nn) M') → V p l e (Rm d) s m args below meth c 9 D cy ad G (wA ad G) 0 0 (MQ below (wQ D cy ad G (rI Qf)) args s 0 0 (wA ad G)) 121 [(0, .ref (ad 30 0)), (1, .int (nI a)), (2, .int (nI i)), (3, .int (nI b)), (4, .int (nI j)), (5, .int (nI nn)), (6, .int 0), (7, .int (nI k))] [] M := by
  intro n
  induction n with
  | zero =>
    intro k M hk hF hR hQ
    obtain rfl : k = nn := by omega
    refine V_iload (pc := 121) C 7 dX10_copy_121 rfl ?_
    refine V_iload (pc := 123) C 5 dX10_copy_123 rfl ?_
    refine V_icmp_ge (tgt := 182) (pc := 125) C dX10_copy_125 (by decide) (fun h_125 => ?_) (fun h_125 => ?_)
    · refine V_iload (pc := 182) C 5 dX10_copy_182 rfl ?_
      refine V_iret (pc := 184) C hr hlk dX10_copy_184 ⟨_, rfl, ?_⟩
      exact hQ M hF hR
    · exact absurd (nI_le (Nat.le_refl _) (by omega)) h_125
  | succ n ih =>
    intro k M hk hF hR hQ
    have hr := hR (src + k)
    rw [if_neg (by omega)] at hr
    refine V_iload (pc := 121) C 7 dX10_copy_121 rfl ?_
    refine V_iload (pc := 123) C 5 dX10_copy_123 rfl ?_
    refine V_icmp_ge (tgt := 182) (pc := 125) C dX10_copy_125 (by decide) (fun h_125 => ?_) (fun h_125 => ?_)
    · exact absurd h_125 (nI_ge (by omega) (by omega))
    · refine V_iload (pc := 128) C 6 dX10_copy_128 rfl ?_
      refine V_if_eq (tgt := 143) (pc := 130) C dX10_copy_130 (by decide) (fun h_130 => ?_) (fun h_130 => ?_)
      · refine V_iload (pc := 143) C 7 dX10_copy_143 rfl ?_
        refine Vs_istore (lv' := [(0, _), (1, _), (2, _), (3, _), (4, _), (5, _), (6, _), (7, _), (8, _)]) (pc := 145) C dX10_copy_145 (by decide) rfl rfl ?_
        refine V_aload_n (pc := 147) C 0 dX10_copy_147 rfl rfl ?_
        refine get_X10_93 (pc := 148) C (wg hG (by decide) (by decide)) dX10_copy_148 ?_
        refine V_bipush (v := 40) (pc := 151) C dX10_copy_151 (by decide) ?_
        refine V_iload_n (pc := 153) C 3 dX10_copy_153 rfl rfl ?_
        refine V_imul (pc := 154) C dX10_copy_154 ?_
        refine V_iload (pc := 155) C 4 dX10_copy_155 rfl ?_
        refine V_iadd (pc := 157) C dX10_copy_157 ?_
        refine V_iload (pc := 158) C 8 dX10_copy_158 rfl ?_
        refine V_iadd (pc := 160) C dX10_copy_160 ?_
        refine V_aload_n (pc := 161) C 0 dX10_copy_161 rfl rfl ?_
        refine get_X10_93 (pc := 162) C (wg hG (by decide) (by decide)) dX10_copy_162 ?_
        refine V_bipush (v := 40) (pc := 165) C dX10_copy_165 (by decide) ?_
        refine V_iload_n (pc := 167) C 1 dX10_copy_167 rfl rfl ?_
        refine V_imul (pc := 168) C dX10_copy_168 ?_
        refine V_iload_n (pc := 169) C 2 dX10_copy_169 rfl rfl ?_
        refine V_iadd (pc := 170) C dX10_copy_170 ?_
        refine V_iload (pc := 171) C 8 dX10_copy_171 rfl ?_
        refine V_iadd (pc := 173) C dX10_copy_173 ?_
        refine V_iald (pc := 174) C (src + k) (by rw [show (40 : Int32) = nI 40 from rfl, pk_mul, nI_add, nI_add]; exact congrArg nI (by omega)) (by omega) (Nat.le_of_ble_eq_true rfl) (wg hG (by decide) (by decide)) wF_55 dX10_copy_174 ?_
        refine V_iast (pc := 175) C (dst + k) (by rw [show (40 : Int32) = nI 40 from rfl, pk_mul, nI_add, nI_add]; exact congrArg nI (by omega)) (by omega) (Nat.le_of_ble_eq_true rfl) (wg hG (by decide) (by decide)) (fun _ => wF_55) dX10_copy_175 ?_
        rw [hr]
        refine Vs_iinc (v := nI (k + 1)) (lv' := [(0, _), (1, _), (2, _), (3, _), (4, _), (5, _), (6, _), (7, _), (8, _)]) (pc := 176) C 7 dX10_copy_176 rfl (by decide) rfl (nI_i1 (k)) rfl ?_
        refine V_goto (tgt := 121) (pc := 179) C dX10_copy_179 (by decide) ?_
        refine V_loc (lv' := [(0, _), (1, _), (2, _), (3, _), (4, _), (5, _), (6, _), (7, _)]) [0, 1, 2, 3, 4, 5, 6, 7] rfl ?_
        refine ih (k + 1) _ (by omega) (fun g x q e => ?_) (fun q => ?_) hQ
        · rw [mset_at, if_neg (by omega)]; exact hF g x q e
        · rw [mset_at]
          by_cases e : q = dst + k
          · rw [if_pos ⟨rfl, rfl, e⟩, if_pos (by omega), show q + src - dst = src + k by omega]
          · rw [if_neg (by omega), hR q]
            by_cases e2 : (dst ≤ q ∧ q < dst + k)
            · rw [if_pos e2, if_pos (by omega)]
            · rw [if_neg e2, if_neg (by omega)]
      · exact absurd rfl h_130
theorem lp_X10_copy_dn {p : Program} {e : Env} {s : State} {m : MethodId} {args : Array Value} {below : List Frame} {meth : Method} {c : Code} (C : CX p s m args c cX10_copy 9 "CostsAgeModel" D cy ad G (wA ad G) (Rm d) d 0 0) (hr : meth.sig.returnType = (some .int)) (hlk : meth.locks = false) (hG : 56 ≤ G) {Ms : wS} {a i b j nn src dst : Nat} (ha : a < 4) (hb : b < 4) (hi : i + nn ≤ 40) (hj : j + nn ≤ 40) (hsrc : src = 40 * a + i) (hdst : dst = 40 * b + j) (ho : src < dst) (Qf : Int32 → wS → Prop) : ∀ (n k : Nat) (M : wS), k + n = nn → (∀ g x q, g ≠ 55 → M.1 g x q = Ms.1 g x q) → (∀ q, M.1 55 0 q = if (dst + nn ≤ q + k ∧ q < dst + nn) then Ms.1 55 0 (q + src - dst) else Ms.1 55 0 q) → (∀ M', (∀ g x q, g ≠ 55 → M'.1 g x q = Ms.1 g x q) → (∀ q, M'.1 55 0 q = if dst ≤ q ∧ q < dst + nn then Ms.1 55 0 (q + src - dst) else Ms.1 55 0 q) → Qf (nI nn) M') → V p l e (Rm d) s m args below meth c 9 D cy ad G (wA ad G) 0 0 (MQ below (wQ D cy ad G (rI Qf)) args s 0 0 (wA ad G)) 121 [(0, .ref (ad 30 0)), (1, .int (nI a)), (2, .int (nI i)), (3, .int (nI b)), (4, .int (nI j)), (5, .int (nI nn)), (6, .int 1), (7, .int (nI k))] [] M := by
  intro n
  induction n with
  | zero =>
    intro k M hk hF hR hQ
    obtain rfl : k = nn := by omega
    refine V_iload (pc := 121) C 7 dX10_copy_121 rfl ?_
    refine V_iload (pc := 123) C 5 dX10_copy_123 rfl ?_
    refine V_icmp_ge (tgt := 182) (pc := 125) C dX10_copy_125 (by decide) (fun h_125 => ?_) (fun h_125 => ?_)
    · refine V_iload (pc := 182) C 5 dX10_copy_182 rfl ?_
      refine V_iret (pc := 184) C hr hlk dX10_copy_184 ⟨_, rfl, ?_⟩
      refine hQ M hF (fun q => ?_)
      rw [hR q]
      by_cases e : dst ≤ q ∧ q < dst + k
      · rw [if_pos e, if_pos (by omega)]
      · rw [if_neg e, if_neg (by omega)]
    · exact absurd (nI_le (Nat.le_refl _) (by omega)) h_125
  | succ n ih =>
    intro k M hk hF hR hQ
    have hr := hR (src + (nn - 1 - k))
    rw [if_neg (by omega)] at hr
    refine V_iload (pc := 121) C 7 dX10_copy_121 rfl ?_
    refine V_iload (pc := 123) C 5 dX10_copy_123 rfl ?_
    refine V_icmp_ge (tgt := 182) (pc := 125) C dX10_copy_125 (by decide) (fun h_125 => ?_) (fun h_125 => ?_)
    · exact absurd h_125 (nI_ge (by omega) (by omega))
    · refine V_iload (pc := 128) C 6 dX10_copy_128 rfl ?_
      refine V_if_eq (tgt := 143) (pc := 130) C dX10_copy_130 (by decide) (fun h_130 => ?_) (fun h_130 => ?_)
      · exact absurd h_130 (by decide)
      · refine V_iload (pc := 133) C 5 dX10_copy_133 rfl ?_
        refine V_iconst (v := 1) (pc := 135) C dX10_copy_135 (by decide) ?_
        refine V_isub (pc := 136) C dX10_copy_136 ?_
        refine V_iload (pc := 137) C 7 dX10_copy_137 rfl ?_
        refine V_isub (pc := 139) C dX10_copy_139 ?_
        refine V_goto (tgt := 145) (pc := 140) C dX10_copy_140 (by decide) ?_
        refine Vs_istore (lv' := [(0, _), (1, _), (2, _), (3, _), (4, _), (5, _), (6, _), (7, _), (8, _)]) (pc := 145) C dX10_copy_145 (by decide) rfl rfl ?_
        refine V_aload_n (pc := 147) C 0 dX10_copy_147 rfl rfl ?_
        refine get_X10_93 (pc := 148) C (wg hG (by decide) (by decide)) dX10_copy_148 ?_
        refine V_bipush (v := 40) (pc := 151) C dX10_copy_151 (by decide) ?_
        refine V_iload_n (pc := 153) C 3 dX10_copy_153 rfl rfl ?_
        refine V_imul (pc := 154) C dX10_copy_154 ?_
        refine V_iload (pc := 155) C 4 dX10_copy_155 rfl ?_
        refine V_iadd (pc := 157) C dX10_copy_157 ?_
        refine V_iload (pc := 158) C 8 dX10_copy_158 rfl ?_
        refine V_iadd (pc := 160) C dX10_copy_160 ?_
        refine V_aload_n (pc := 161) C 0 dX10_copy_161 rfl rfl ?_
        refine get_X10_93 (pc := 162) C (wg hG (by decide) (by decide)) dX10_copy_162 ?_
        refine V_bipush (v := 40) (pc := 165) C dX10_copy_165 (by decide) ?_
        refine V_iload_n (pc := 167) C 1 dX10_copy_167 rfl rfl ?_
        refine V_imul (pc := 168) C dX10_copy_168 ?_
        refine V_iload_n (pc := 169) C 2 dX10_copy_169 rfl rfl ?_
        refine V_iadd (pc := 170) C dX10_copy_170 ?_
        refine V_iload (pc := 171) C 8 dX10_copy_171 rfl ?_
        refine V_iadd (pc := 173) C dX10_copy_173 ?_
        refine V_iald (pc := 174) C (src + (nn - 1 - k)) (by rw [show (40 : Int32) = nI 40 from rfl, pk_mul, nI_add, sub_n (by omega) (by omega), nI_add]; exact congrArg nI (by omega)) (by omega) (Nat.le_of_ble_eq_true rfl) (wg hG (by decide) (by decide)) wF_55 dX10_copy_174 ?_
        refine V_iast (pc := 175) C (dst + (nn - 1 - k)) (by rw [show (40 : Int32) = nI 40 from rfl, pk_mul, nI_add, sub_n (by omega) (by omega), nI_add]; exact congrArg nI (by omega)) (by omega) (Nat.le_of_ble_eq_true rfl) (wg hG (by decide) (by decide)) (fun _ => wF_55) dX10_copy_175 ?_
        rw [hr]
        refine Vs_iinc (v := nI (k + 1)) (lv' := [(0, _), (1, _), (2, _), (3, _), (4, _), (5, _), (6, _), (7, _), (8, _)]) (pc := 176) C 7 dX10_copy_176 rfl (by decide) rfl (nI_i1 (k)) rfl ?_
        refine V_goto (tgt := 121) (pc := 179) C dX10_copy_179 (by decide) ?_
        refine V_loc (lv' := [(0, _), (1, _), (2, _), (3, _), (4, _), (5, _), (6, _), (7, _)]) [0, 1, 2, 3, 4, 5, 6, 7] rfl ?_
        refine ih (k + 1) _ (by omega) (fun g x q e => ?_) (fun q => ?_) hQ
        · rw [mset_at, if_neg (by omega)]; exact hF g x q e
        · rw [mset_at]
          by_cases e : q = dst + (nn - 1 - k)
          · rw [if_pos ⟨rfl, rfl, e⟩, if_pos (by omega), show q + src - dst = src + (nn - 1 - k) by omega]
          · rw [if_neg (by omega), hR q]
            by_cases e2 : (dst + nn ≤ q + k ∧ q < dst + nn)
            · rw [if_pos e2, if_pos (by omega)]
            · rw [if_neg e2, if_neg (by omega)]
end S84
