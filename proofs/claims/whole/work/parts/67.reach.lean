def nxJ (nx0 E : Nat → Option Nat) (c : Option Nat) (b j K : Nat) : Option Nat := if K.testBit b = true ∧ K ^^^ 2 ^ b < j then mAdd (nx0 K) (E (K ^^^ 2 ^ b)) c else nx0 K
def nxF (nx0 E : Nat → Option Nat) (c : Option Nat) (b K : Nat) : Option Nat := if K.testBit b = true then mAdd (nx0 K) (E (K ^^^ 2 ^ b)) c else nx0 K
theorem orb1 : ∀ j, j < 128 → ∀ b, b < 7 → j.testBit b = true → j ||| 2 ^ b = j := by decide +kernel
theorem orb0 : ∀ j, j < 128 → ∀ b, b < 7 → j.testBit b = false → j ||| 2 ^ b < 128 ∧ (j ||| 2 ^ b).testBit b = true ∧ (j ||| 2 ^ b) ^^^ 2 ^ b = j ∧ j ||| 2 ^ b ≠ j := by decide +kernel
theorem orbK : ∀ K, K < 128 → ∀ b, b < 7 → K.testBit b = true → (K ^^^ 2 ^ b) ||| 2 ^ b = K ∧ (K ^^^ 2 ^ b).testBit b = false ∧ K ^^^ 2 ^ b < 128 := by decide +kernel
theorem nxJ_oth {nx0 E : Nat → Option Nat} {c : Option Nat} {b j K : Nat} (h : ¬ (K.testBit b = true ∧ K ^^^ 2 ^ b = j)) : nxJ nx0 E c b (j + 1) K = nxJ nx0 E c b j K := by
  unfold nxJ
  by_cases e : K.testBit b = true ∧ K ^^^ 2 ^ b < j
  · rw [if_pos e, if_pos ⟨e.1, by omega⟩]
  · rw [if_neg e, if_neg (fun z => e ⟨z.1, by
      have h1 := z.2
      have h2 : ¬ K ^^^ 2 ^ b = j := fun y => h ⟨z.1, y⟩
      omega⟩)]
theorem nxJ_at {nx0 E : Nat → Option Nat} {c : Option Nat} {b j : Nat} (hj : j < 128) (hb : b < 7) (h : j.testBit b = false) : nxJ nx0 E c b j (j ||| 2 ^ b) = nx0 (j ||| 2 ^ b) ∧ nxJ nx0 E c b (j + 1) (j ||| 2 ^ b) = mAdd (nx0 (j ||| 2 ^ b)) (E j) c := by
  obtain ⟨o1, o2, o3, o4⟩ := orb0 j hj b hb h
  unfold nxJ
  rw [o3, if_neg (fun z => absurd z.2 (Nat.lt_irrefl j)), if_pos ⟨o2, by omega⟩]
  exact ⟨rfl, rfl⟩
theorem nxJ_end {nx0 E : Nat → Option Nat} {c : Option Nat} {b K : Nat} (hK : K < 128) (hb : b < 7) : nxJ nx0 E c b 128 K = nxF nx0 E c b K := by
  unfold nxJ nxF
  by_cases e : K.testBit b = true
  · rw [if_pos ⟨e, (orbK K hK b hb e).2.2⟩, if_pos e]
  · rw [if_neg (fun z => e z.1), if_neg e]
theorem nxJ_none {nx0 E : Nat → Option Nat} {b j K : Nat} : nxJ nx0 E none b j K = nx0 K ∧ nxF nx0 E none b K = nx0 K := by
  unfold nxJ nxF
  rw [mAdd_n2]
  constructor <;> split <;> rfl
theorem nxJ_le {nx0 E : Nat → Option Nat} {c : Option Nat} {b j : Nat} (hE : ∀ K a, E K = some a → a ≤ 260000) (hc : ∀ w, c = some w → w ≤ 2000) (hn : ∀ K a, nx0 K = some a → a ≤ 300000) (K : Nat) : ∀ a, nxJ nx0 E c b j K = some a → a ≤ 300000 := by
  unfold nxJ
  split
  · exact mAdd_le (fun a ha b' hb => by have := hE _ a ha; have := hc b' hb; omega) (hn K)
  · exact hn K
def encE (g : Nat) (E : Nat → Option Nat) (M : wS) : Prop := ∀ K, K < 128 → eQ (E K) (M.1 g 0 K)
section S67
variable {l : Launch} {D : va_G} {cy : Nat → ClassId} {ad : Nat → Nat → Nat} {G d : Nat}
theorem li_X10_eachOne {p : Program} {e : Env} {s : State} {m : MethodId} {args : Array Value} {below : List Frame} {meth : Method} {c : Code} (C : CX p s m args c cX10_eachOne 6 "CostsAgeModel" D cy ad G (wA ad G) (Rm d) d 0 0) (hr : meth.sig.returnType = (some .int)) (hlk : meth.locks = false) (hG : 56 ≤ G) {Ms : wS} {E nx0 : Nat → Option Nat} (hE : ∀ K a, E K = some a → a ≤ 260000) (hn0 : ∀ K a, nx0 K = some a → a ≤ 300000) {v : Int32} {co : Option Nat} (hv : (v = -5 ∧ co = none) ∨ (∃ w, v = nI w ∧ co = some w ∧ w ≤ 2000)) {b : Nat} (hb : b < 7) (ti : Int32) (Qf : Int32 → wS → Prop) : ∀ (n j : Nat) (M : wS), j + n = 128 → qF Ms M → encE 46 E M → encE 47 (nxJ nx0 E co b j) M → (∀ M', qF Ms M' → encE 46 E M' → encE 47 (nxF nx0 E co b) M' → V p l e (Rm d) s m args below meth c 6 D cy ad G (wA ad G) 0 0 (MQ below (wQ D cy ad G (rI Qf)) args s 0 0 (wA ad G)) 188 [(0, .ref (ad 30 0)), (1, .int ti), (2, .int (nI b))] [] M') → V p l e (Rm d) s m args below meth c 6 D cy ad G (wA ad G) 0 0 (MQ below (wQ D cy ad G (rI Qf)) args s 0 0 (wA ad G)) 96 [(0, .ref (ad 30 0)), (1, .int ti), (2, .int (nI b)), (3, .int v), (4, .int (nI j))] [] M := by
  have hcw : ∀ w, co = some w → w ≤ 2000 := by
    intro w hw
    rcases hv with ⟨_, e⟩ | ⟨w', _, e, h⟩
    · rw [e] at hw; cases hw
    · rw [e] at hw; cases hw; exact h
  intro n
  induction n with
  | zero =>
    intro j M hj hF hEE hN hQ
    obtain rfl : j = 128 := by omega
    refine V_iload (pc := 96) C 4 dX10_eachOne_96 rfl ?_
    refine V_sipush (v := 128) (pc := 98) C dX10_eachOne_98 (by decide) ?_
    refine V_icmp_ge (tgt := 188) (pc := 101) C dX10_eachOne_101 (by decide) (fun h_101 => ?_) (fun h_101 => ?_)
    · refine V_loc (lv' := [(0, _), (1, _), (2, _)]) [0, 1, 2] rfl ?_
      exact hQ M hF hEE (fun K hK => by have := hN K hK; rw [nxJ_end hK hb] at this; exact this)
    · exact absurd (nI_le (a := 128) (b := 128) (Nat.le_refl _) (by decide)) h_101
  | succ n ih =>
    intro j M hj hF hEE hN hQ
    have hj128 : j < 128 := by omega
    have skip : (∀ K, K < 128 → nxJ nx0 E co b (j + 1) K = nxJ nx0 E co b j K) → V p l e (Rm d) s m args below meth c 6 D cy ad G (wA ad G) 0 0 (MQ below (wQ D cy ad G (rI Qf)) args s 0 0 (wA ad G)) 96 [(0, .ref (ad 30 0)), (1, .int ti), (2, .int (nI b)), (3, .int v), (4, .int (nI (j + 1)))] [] M := fun e => ih (j + 1) M (by omega) hF hEE (fun K hK => by rw [e K hK]; exact hN K hK) hQ
    have hto : nI j ||| ((1 : Int32) <<< (nI b &&& 31)) = nI (j ||| 2 ^ b) := by rw [shl_i b (by omega), or_i j hj128 _ (pow7 b hb)]
    have hto7 : j ||| 2 ^ b < 128 := by
      by_cases z : j.testBit b = true
      · rw [orb1 j hj128 b hb z]; exact hj128
      · exact (orb0 j hj128 b hb (by rw [Bool.eq_false_iff]; exact z)).1
    have hEj := hEE j hj128
    have hNt := hN (j ||| 2 ^ b) hto7
    have hNl := nxJ_le (b := b) (j := j) hE hcw hn0 (j ||| 2 ^ b)
    refine V_iload (pc := 96) C 4 dX10_eachOne_96 rfl ?_
    refine V_sipush (v := 128) (pc := 98) C dX10_eachOne_98 (by decide) ?_
    refine V_icmp_ge (tgt := 188) (pc := 101) C dX10_eachOne_101 (by decide) (fun h_101 => ?_) (fun h_101 => ?_)
    · exact absurd h_101 (nI_ge (b := 128) (by omega) (by decide))
    · refine V_iload_n (pc := 104) C 3 dX10_eachOne_104 rfl rfl ?_
      refine V_bipush (v := -5) (pc := 105) C dX10_eachOne_105 (by decide) ?_
      refine V_icmp_eq (tgt := 188) (pc := 107) C dX10_eachOne_107 (by decide) (fun h_107 => ?_) (fun h_107 => ?_)
      · have hco : co = none := by
          rcases hv with ⟨_, e⟩ | ⟨w', e1, _, h⟩
          · exact e
          · rw [e1] at h_107
            have := nI_pos' (n := w') (by omega)
            rw [h_107] at this
            exact absurd this (by decide)
        refine V_loc (lv' := [(0, _), (1, _), (2, _)]) [0, 1, 2] rfl ?_
        exact hQ M hF hEE (fun K hK => by have := hN K hK; rw [hco, nxJ_none.1] at this; rw [hco, (nxJ_none (j := 0)).2]; exact this)
      · obtain ⟨w, hw1, hw2, hw3⟩ := hv.resolve_left (fun e => h_107 e.1)
        refine V_iload (pc := 110) C 4 dX10_eachOne_110 rfl ?_
        refine V_iconst (v := 1) (pc := 112) C dX10_eachOne_112 (by decide) ?_
        refine V_iload_n (pc := 113) C 2 dX10_eachOne_113 rfl rfl ?_
        refine V_ishl (pc := 114) C dX10_eachOne_114 ?_
        refine V_ior (pc := 115) C dX10_eachOne_115 ?_
        rw [hto]
        refine Vs_istore (lv' := [(0, _), (1, _), (2, _), (3, _), (4, _), (5, _)]) (pc := 116) C dX10_eachOne_116 (by decide) rfl rfl ?_
        refine V_aload_n (pc := 118) C 0 dX10_eachOne_118 rfl rfl ?_
        refine get_X10_62 (pc := 119) C (wg hG (by decide) (by decide)) dX10_eachOne_119 ?_
        refine V_iload (pc := 122) C 4 dX10_eachOne_122 rfl ?_
        refine V_iald (pc := 124) C (j) rfl hj128 (Nat.le_of_ble_eq_true rfl) (wg hG (by decide) (by decide)) wF_46 dX10_eachOne_124 ?_
        refine V_iconst (v := -1) (pc := 125) C dX10_eachOne_125 (by decide) ?_
        refine V_icmp_eq (tgt := 182) (pc := 126) C dX10_eachOne_126 (by decide) (fun h_126 => ?_) (fun h_126 => ?_)
        · have he := (eQ_m1 hEj (fun p hp => by have := hE j p hp; omega)).mp h_126
          have hsk := skip (fun K hK => by
            by_cases z : K.testBit b = true ∧ K ^^^ 2 ^ b = j
            · have hjf := (orbK K hK b hb z.1).2.1
              rw [z.2] at hjf
              have hKe : K = j ||| 2 ^ b := by rw [← z.2]; exact (orbK K hK b hb z.1).1.symm
              rw [hKe, (nxJ_at hj128 hb hjf).1, (nxJ_at hj128 hb hjf).2, he, mAdd_n1]
            · exact nxJ_oth z)
          refine Vs_iinc (v := nI (j + 1)) (lv' := [(0, _), (1, _), (2, _), (3, _), (4, _), (5, _)]) (pc := 182) C 4 dX10_eachOne_182 rfl (by decide) rfl (nI_i1 (j)) rfl ?_
          refine V_goto (tgt := 96) (pc := 185) C dX10_eachOne_185 (by decide) ?_
          refine V_loc (lv' := [(0, _), (1, _), (2, _), (3, _), (4, _)]) [0, 1, 2, 3, 4] rfl ?_
          first | exact hsk | (refine ih (j + 1) _ (by omega) (hF.tr (qF.arr (g := 47) _ (by decide))) (fun K hK => ?_) (fun K hK => ?_) hQ; (rw [mset_at, if_neg (by omega)]; exact hEE K hK); (rw [mset_at]; by_cases z : K = j ||| 2 ^ b; (rw [if_pos ⟨rfl, rfl, z⟩, z, htk]; first | exact (show M.1 46 0 j + v = nI (a + w) by rw [hEj, hw1, nI_add]) | rfl); (rw [if_neg (fun y => z y.2.2), huq K hK z]; exact hN K hK)))
        · have hes : ¬ E j = none := fun e => h_126 ((eQ_m1 hEj (fun p hp => by have := hE j p hp; omega)).mpr e)
          obtain ⟨a, ha⟩ := Option.ne_none_iff_exists'.mp hes
          rw [ha] at hEj
          have hEj : M.1 46 0 j = nI a := hEj
          have hab := hE j a ha
          refine V_iload (pc := 129) C 5 dX10_eachOne_129 rfl ?_
          refine V_iload (pc := 131) C 4 dX10_eachOne_131 rfl ?_
          refine V_icmp_eq (tgt := 182) (pc := 133) C dX10_eachOne_133 (by decide) (fun h_133 => ?_) (fun h_133 => ?_)
          · have hjt : j.testBit b = true := by
              rcases Bool.eq_false_or_eq_true (j.testBit b) with y | y
              · exact y
              · exact absurd ((nI_eq (by omega) (by omega)).mp h_133) (orb0 j hj128 b hb y).2.2.2
            have hsk := skip (fun K hK => nxJ_oth (fun z => by
              have := (orbK K hK b hb z.1).2.1
              rw [z.2, hjt] at this
              cases this))
            refine Vs_iinc (v := nI (j + 1)) (lv' := [(0, _), (1, _), (2, _), (3, _), (4, _), (5, _)]) (pc := 182) C 4 dX10_eachOne_182 rfl (by decide) rfl (nI_i1 (j)) rfl ?_
            refine V_goto (tgt := 96) (pc := 185) C dX10_eachOne_185 (by decide) ?_
            refine V_loc (lv' := [(0, _), (1, _), (2, _), (3, _), (4, _)]) [0, 1, 2, 3, 4] rfl ?_
            first | exact hsk | (refine ih (j + 1) _ (by omega) (hF.tr (qF.arr (g := 47) _ (by decide))) (fun K hK => ?_) (fun K hK => ?_) hQ; (rw [mset_at, if_neg (by omega)]; exact hEE K hK); (rw [mset_at]; by_cases z : K = j ||| 2 ^ b; (rw [if_pos ⟨rfl, rfl, z⟩, z, htk]; first | exact (show M.1 46 0 j + v = nI (a + w) by rw [hEj, hw1, nI_add]) | rfl); (rw [if_neg (fun y => z y.2.2), huq K hK z]; exact hN K hK)))
          · have hjf : j.testBit b = false := by
              rcases Bool.eq_false_or_eq_true (j.testBit b) with y | y
              · exact absurd (by rw [orb1 j hj128 b hb y]) h_133
              · exact y
            have hat := nxJ_at (nx0 := nx0) (E := E) (c := co) hj128 hb hjf
            rw [ha, hw2] at hat
            have huq : ∀ K, K < 128 → ¬ K = j ||| 2 ^ b → nxJ nx0 E co b (j + 1) K = nxJ nx0 E co b j K := fun K hK hne => nxJ_oth (fun z => hne (by rw [← z.2]; exact (orbK K hK b hb z.1).1.symm))
            refine V_aload_n (pc := 136) C 0 dX10_eachOne_136 rfl rfl ?_
            refine get_X10_65 (pc := 137) C (wg hG (by decide) (by decide)) dX10_eachOne_137 ?_
            refine V_iload (pc := 140) C 5 dX10_eachOne_140 rfl ?_
            refine V_iald (pc := 142) C (j ||| 2 ^ b) rfl hto7 (Nat.le_of_ble_eq_true rfl) (wg hG (by decide) (by decide)) wF_47 dX10_eachOne_142 ?_
            refine V_iconst (v := -1) (pc := 143) C dX10_eachOne_143 (by decide) ?_
            refine V_icmp_eq (tgt := 166) (pc := 144) C dX10_eachOne_144 (by decide) (fun h_144 => ?_) (fun h_144 => ?_)
            · have hnn := (eQ_m1 hNt (fun p hp => by have := hNl p hp; omega)).mp h_144
              have htk : nxJ nx0 E co b (j + 1) (j ||| 2 ^ b) = some (a + w) := by
                rw [hw2, hat.2, ← hat.1, ← hw2, hnn, hw2]
                rfl
              refine V_aload_n (pc := 166) C 0 dX10_eachOne_166 rfl rfl ?_
              refine get_X10_65 (pc := 167) C (wg hG (by decide) (by decide)) dX10_eachOne_167 ?_
              refine V_iload (pc := 170) C 5 dX10_eachOne_170 rfl ?_
              refine V_aload_n (pc := 172) C 0 dX10_eachOne_172 rfl rfl ?_
              refine get_X10_62 (pc := 173) C (wg hG (by decide) (by decide)) dX10_eachOne_173 ?_
              refine V_iload (pc := 176) C 4 dX10_eachOne_176 rfl ?_
              refine V_iald (pc := 178) C (j) rfl hj128 (Nat.le_of_ble_eq_true rfl) (wg hG (by decide) (by decide)) wF_46 dX10_eachOne_178 ?_
              refine V_iload_n (pc := 179) C 3 dX10_eachOne_179 rfl rfl ?_
              refine V_iadd (pc := 180) C dX10_eachOne_180 ?_
              refine V_iast (pc := 181) C (j ||| 2 ^ b) rfl hto7 (Nat.le_of_ble_eq_true rfl) (wg hG (by decide) (by decide)) (fun _ => wF_47) dX10_eachOne_181 ?_
              refine Vs_iinc (v := nI (j + 1)) (lv' := [(0, _), (1, _), (2, _), (3, _), (4, _), (5, _)]) (pc := 182) C 4 dX10_eachOne_182 rfl (by decide) rfl (nI_i1 (j)) rfl ?_
              refine V_goto (tgt := 96) (pc := 185) C dX10_eachOne_185 (by decide) ?_
              refine V_loc (lv' := [(0, _), (1, _), (2, _), (3, _), (4, _)]) [0, 1, 2, 3, 4] rfl ?_
              first | exact hsk | (refine ih (j + 1) _ (by omega) (hF.tr (qF.arr (g := 47) _ (by decide))) (fun K hK => ?_) (fun K hK => ?_) hQ; (rw [mset_at, if_neg (by omega)]; exact hEE K hK); (rw [mset_at]; by_cases z : K = j ||| 2 ^ b; (rw [if_pos ⟨rfl, rfl, z⟩, z, htk]; first | exact (show M.1 46 0 j + v = nI (a + w) by rw [hEj, hw1, nI_add]) | rfl); (rw [if_neg (fun y => z y.2.2), huq K hK z]; exact hN K hK)))
            · have hns : ¬ nxJ nx0 E co b j (j ||| 2 ^ b) = none := fun e => h_144 ((eQ_m1 hNt (fun p hp => by have := hNl p hp; omega)).mpr e)
              obtain ⟨x0, hx0⟩ := Option.ne_none_iff_exists'.mp hns
              have hNt2 := hNt
              rw [hx0] at hNt2
              have hNt2 : M.1 47 0 (j ||| 2 ^ b) = nI x0 := hNt2
              have hxb := hNl x0 hx0
              have hst : nxJ nx0 E co b (j + 1) (j ||| 2 ^ b) = if a + w < x0 then some (a + w) else some x0 := by
                rw [hw2, hat.2, ← hat.1, ← hw2, hx0, hw2]
                rfl
              refine V_aload_n (pc := 147) C 0 dX10_eachOne_147 rfl rfl ?_
              refine get_X10_62 (pc := 148) C (wg hG (by decide) (by decide)) dX10_eachOne_148 ?_
              refine V_iload (pc := 151) C 4 dX10_eachOne_151 rfl ?_
              refine V_iald (pc := 153) C (j) rfl hj128 (Nat.le_of_ble_eq_true rfl) (wg hG (by decide) (by decide)) wF_46 dX10_eachOne_153 ?_
              refine V_iload_n (pc := 154) C 3 dX10_eachOne_154 rfl rfl ?_
              refine V_iadd (pc := 155) C dX10_eachOne_155 ?_
              rw [hEj]
              refine V_aload_n (pc := 156) C 0 dX10_eachOne_156 rfl rfl ?_
              refine get_X10_65 (pc := 157) C (wg hG (by decide) (by decide)) dX10_eachOne_157 ?_
              refine V_iload (pc := 160) C 5 dX10_eachOne_160 rfl ?_
              refine V_iald (pc := 162) C (j ||| 2 ^ b) rfl hto7 (Nat.le_of_ble_eq_true rfl) (wg hG (by decide) (by decide)) wF_47 dX10_eachOne_162 ?_
              refine V_icmp_ge (tgt := 182) (pc := 163) C dX10_eachOne_163 (by decide) (fun h_163 => ?_) (fun h_163 => ?_)
              · rw [hNt2, hw1, nI_add, nI_leI (by omega) (by omega)] at h_163
                have hsk := skip (fun K hK => by
                  by_cases z : K = j ||| 2 ^ b
                  · rw [z, hst, if_neg (by omega), hx0]
                  · exact huq K hK z)
                refine Vs_iinc (v := nI (j + 1)) (lv' := [(0, _), (1, _), (2, _), (3, _), (4, _), (5, _)]) (pc := 182) C 4 dX10_eachOne_182 rfl (by decide) rfl (nI_i1 (j)) rfl ?_
                refine V_goto (tgt := 96) (pc := 185) C dX10_eachOne_185 (by decide) ?_
                refine V_loc (lv' := [(0, _), (1, _), (2, _), (3, _), (4, _)]) [0, 1, 2, 3, 4] rfl ?_
                first | exact hsk | (refine ih (j + 1) _ (by omega) (hF.tr (qF.arr (g := 47) _ (by decide))) (fun K hK => ?_) (fun K hK => ?_) hQ; (rw [mset_at, if_neg (by omega)]; exact hEE K hK); (rw [mset_at]; by_cases z : K = j ||| 2 ^ b; (rw [if_pos ⟨rfl, rfl, z⟩, z, htk]; first | exact (show M.1 46 0 j + v = nI (a + w) by rw [hEj, hw1, nI_add]) | rfl); (rw [if_neg (fun y => z y.2.2), huq K hK z]; exact hN K hK)))
              · rw [hNt2, hw1, nI_add, nI_leI (by omega) (by omega)] at h_163
                have htk : nxJ nx0 E co b (j + 1) (j ||| 2 ^ b) = some (a + w) := by rw [hst, if_pos (by omega)]
                refine V_aload_n (pc := 166) C 0 dX10_eachOne_166 rfl rfl ?_
                refine get_X10_65 (pc := 167) C (wg hG (by decide) (by decide)) dX10_eachOne_167 ?_
                refine V_iload (pc := 170) C 5 dX10_eachOne_170 rfl ?_
                refine V_aload_n (pc := 172) C 0 dX10_eachOne_172 rfl rfl ?_
                refine get_X10_62 (pc := 173) C (wg hG (by decide) (by decide)) dX10_eachOne_173 ?_
                refine V_iload (pc := 176) C 4 dX10_eachOne_176 rfl ?_
                refine V_iald (pc := 178) C (j) rfl hj128 (Nat.le_of_ble_eq_true rfl) (wg hG (by decide) (by decide)) wF_46 dX10_eachOne_178 ?_
                refine V_iload_n (pc := 179) C 3 dX10_eachOne_179 rfl rfl ?_
                refine V_iadd (pc := 180) C dX10_eachOne_180 ?_
                refine V_iast (pc := 181) C (j ||| 2 ^ b) rfl hto7 (Nat.le_of_ble_eq_true rfl) (wg hG (by decide) (by decide)) (fun _ => wF_47) dX10_eachOne_181 ?_
                refine Vs_iinc (v := nI (j + 1)) (lv' := [(0, _), (1, _), (2, _), (3, _), (4, _), (5, _)]) (pc := 182) C 4 dX10_eachOne_182 rfl (by decide) rfl (nI_i1 (j)) rfl ?_
                refine V_goto (tgt := 96) (pc := 185) C dX10_eachOne_185 (by decide) ?_
                refine V_loc (lv' := [(0, _), (1, _), (2, _), (3, _), (4, _)]) [0, 1, 2, 3, 4] rfl ?_
                first | exact hsk | (refine ih (j + 1) _ (by omega) (hF.tr (qF.arr (g := 47) _ (by decide))) (fun K hK => ?_) (fun K hK => ?_) hQ; (rw [mset_at, if_neg (by omega)]; exact hEE K hK); (rw [mset_at]; by_cases z : K = j ||| 2 ^ b; (rw [if_pos ⟨rfl, rfl, z⟩, z, htk]; first | exact (show M.1 46 0 j + v = nI (a + w) by rw [hEj, hw1, nI_add]) | rfl); (rw [if_neg (fun y => z y.2.2), huq K hK z]; exact hN K hK)))
end S67
