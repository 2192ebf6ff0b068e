/-- the cost of a thing by a buyer, as a number or none -/
noncomputable def kC2 (M : wS) (nb nt r e1 e2 b t : Nat) : Option Nat := if b < nb ∧ t < nt ∧ 0 ≤ kFc M r e1 e2 b (M.1 28 0 b) t then some (kFc M r e1 e2 b (M.1 28 0 b) t).toNatClampNeg else none
theorem kFc_range {M : wS} {nb nt r e1 e2 e3 : Nat} (hP : IP M nb nt r e1 e2 e3) {b : Nat} (hb : b < 7) (fee : Int32) (hf : 0 ≤ fee ∧ fee ≤ 99) (t : Nat) : kFc M r e1 e2 b fee t = -5 ∨ (0 ≤ kFc M r e1 e2 b fee t ∧ (kFc M r e1 e2 b fee t).toInt ≤ 1404) := by
  unfold kFc
  split
  · exact Or.inl rfl
  · have hP2 := hP.scr (kAlone_scr M t)
    exact kCost_range hP2.2.2.2.1 hP2.2.2.2.2 hb r e1 e2 fee 0 hf (by decide)
theorem kC2_le {M : wS} {nb nt r e1 e2 e3 : Nat} (hP : IP M nb nt r e1 e2 e3) : ∀ b t a, kC2 M nb nt r e1 e2 b t = some a → a ≤ 2000 := by
  intro b t a h
  unfold kC2 at h
  split at h
  · next hz =>
    cases h
    have hb7 : b < 7 := Nat.lt_of_lt_of_le hz.1 hP.1.2
    rcases kFc_range hP hb7 (M.1 28 0 b) (hP.2.2.2.1 b hb7).2.2.2.2 t with hr | hr
    · rw [hr] at hz
      exact absurd hz.2.2 (by decide)
    · have : (kFc M r e1 e2 b (M.1 28 0 b) t).toNatClampNeg = (kFc M r e1 e2 b (M.1 28 0 b) t).toInt.toNat := rfl
      omega
  · cases h
theorem kC2_enc {M : wS} {nb nt r e1 e2 : Nat} {b t : Nat} (hb : b < nb) (ht : t < nt) : eP (kC2 M nb nt r e1 e2 b t) (kFc M r e1 e2 b (M.1 28 0 b) t) := by
  by_cases hz : 0 ≤ kFc M r e1 e2 b (M.1 28 0 b) t
  · rw [show kC2 M nb nt r e1 e2 b t = some (kFc M r e1 e2 b (M.1 28 0 b) t).toNatClampNeg from if_pos ⟨hb, ht, hz⟩]
    exact toNat_nI hz
  · rw [show kC2 M nb nt r e1 e2 b t = none from if_neg (fun z => hz z.2.2)]
    exact Int32.not_le.mp hz
theorem pow8 : ∀ n, n < 8 → 2 ^ n ≤ 128 := by decide
section S30
variable {l : Launch} {D : va_G} {cy : Nat → ClassId} {ad : Nat → Nat → Nat} {G d : Nat}
theorem lp_X9_eachOne {p : Program} {e : Env} {s : State} {m : MethodId} {args : Array Value} {below : List Frame} {meth : Method} {c : Code} (C : CX p s m args c cX9_eachOne 6 "CostsAge" D cy ad G (wA ad G) (Rm d) d 0 0) (hr : meth.sig.returnType = (some .int)) (hlk : meth.locks = false) (hG : 30 ≤ G) (hd : 3 ≤ d) (M : wS) {nb nt O m2 : Nat} (hnb : M.1 0 0 11 = nI nb) (hn7 : nb ≤ 7) (hnt : M.1 0 0 12 = nI nt) (ht7 : nt ≤ 7) (hO : O < 2 ^ nt) (hO7 : O < 128) (hm : m2 = pc7 O) {c2 : Nat → Nat → Option Nat} (hc : ∀ b t, b < nb → t < nt → O.testBit t = true → eP (c2 b t) (M.1 23 0 (7 * b + t))) (hcb : ∀ b t a, c2 b t = some a → a ≤ 2000) (Qf : Int32 → wS → Prop) : ∀ (n K : Nat) (cur : Option Nat) (M1 : wS), K + n = 2 ^ nb → Fr [21] M M1 → (∀ K', K' < K → eP (eTab c2 O m2 nb 128 K') (M1.1 21 0 K')) → (∀ a, cur = some a → a ≤ 2000 * 128) → (∀ M', Fr [21] M M' → Qf (encM (eBest (eTab c2 O m2 nb 128) m2 n K cur)) M') → V p l e (Rm d) s m args below meth c 6 D cy ad G (wA ad G) 0 0 (MQ below (wQ D cy ad G (rI Qf)) args s 0 0 (wA ad G)) 19 [(0, .ref (ad 0 0)), (1, .int (nI O)), (2, .int (nI m2)), (3, .int (encM cur)), (4, .int (nI K))] [] M1 := by
  have h128 := pow8 nb (by omega)
  have p3 := (pc7_lt O hO7).1
  intro n
  induction n with
  | zero =>
    intro K cur M1 hn hF hA hle hq
    refine V_iload (pc := 19) C 4 dX9_eachOne_19 rfl ?_
    refine V_iconst (v := 1) (pc := 21) C dX9_eachOne_21 (by decide) ?_
    refine V_aload_n (pc := 22) C 0 dX9_eachOne_22 rfl rfl ?_
    refine get_X9_106 (pc := 23) C (wg hG (by decide) (by decide)) dX9_eachOne_23 ?_
    refine V_ishl (pc := 26) C dX9_eachOne_26 ?_
    refine V_icmp_ge (tgt := 85) (pc := 27) C dX9_eachOne_27 (by decide) (fun h_27 => ?_) (fun h_27 => ?_)
    · refine V_iload_n (pc := 85) C 3 dX9_eachOne_85 rfl rfl ?_
      refine V_iret (pc := 86) C hr hlk dX9_eachOne_86 ⟨_, rfl, ?_⟩
      exact hq M1 hF
    · rw [hF.1 0 0 (by decide), hnb, shl_i nb (by omega)] at h_27
      exact absurd (nI_le (by omega) (by omega)) h_27
  | succ n ih =>
    intro K cur M1 hn hF hA hle hq
    have hK : K < 128 := by omega
    have p1 := (pc7_lt K hK).1
    have hq2 : ∀ M', Fr [21] M M' → Qf (encM (eBest (eTab c2 O m2 nb 128) m2 n (K + 1) (if pc7 K = m2 then minO cur (eTab c2 O m2 nb 128 K) else cur))) M' := hq
    have hnew : eTab c2 O m2 nb 128 K = eNew c2 (eTab c2 O m2 nb 128) O m2 nb K := by
      rw [eTab_lt 128 hK]
      show (if K = K then eNew c2 (eTab c2 O m2 nb K) O m2 nb K else eTab c2 O m2 nb K K) = _
      rw [if_pos rfl]
      unfold eNew
      split
      · rfl
      · split
        · have key : ∀ (n b : Nat) (cur : Option Nat), b + n ≤ 7 → eCellF (fun b => c2 b (bitAt O (pc7 K))) (eTab c2 O m2 nb K) K b n cur = eCellF (fun b => c2 b (bitAt O (pc7 K))) (eTab c2 O m2 nb 128) K b n cur := by
            intro n
            induction n with
            | zero => intro b cur _; rfl
            | succ n ih =>
              intro b cur hb
              rw [eCellF, eCellF]
              by_cases hz : K.testBit b = true
              · obtain ⟨b1, b2⟩ := bit_x K hK b (by omega) hz
                rw [if_pos hz, if_pos hz, eTab_lt K b1, eTab_lt 128 b2, ih _ _ (by omega)]
              · rw [if_neg hz, if_neg hz, ih _ _ (by omega)]
          exact key nb 0 none (by omega)
        · rfl
    have hle1 : ∀ a, eTab c2 O m2 nb 128 K = some a → a ≤ 2000 * K := fun a ha => eTab_le hn7 hcb 128 (Nat.le_refl _) K a ha
    have hFK : ∀ w, Fr [21] M (mset M1 21 0 K w) := fun w => hF.tr ⟨fun g i hg => by
      funext k
      rw [mset_at, if_neg (fun z => hg (by simp [z.1]))], rfl⟩
    have hAK : ∀ w, eP (eTab c2 O m2 nb 128 K) w → ∀ K', K' < K + 1 → eP (eTab c2 O m2 nb 128 K') ((mset M1 21 0 K w).1 21 0 K') := by
      intro w hw K' hK'
      rw [mset_at]
      by_cases e : K' = K
      · subst e
        rw [if_pos ⟨rfl, rfl, rfl⟩]
        exact hw
      · rw [if_neg (fun z => e z.2.2)]
        exact hA K' (by omega)
    refine V_iload (pc := 19) C 4 dX9_eachOne_19 rfl ?_
    refine V_iconst (v := 1) (pc := 21) C dX9_eachOne_21 (by decide) ?_
    refine V_aload_n (pc := 22) C 0 dX9_eachOne_22 rfl rfl ?_
    refine get_X9_106 (pc := 23) C (wg hG (by decide) (by decide)) dX9_eachOne_23 ?_
    refine V_ishl (pc := 26) C dX9_eachOne_26 ?_
    refine V_icmp_ge (tgt := 85) (pc := 27) C dX9_eachOne_27 (by decide) (fun h_27 => ?_) (fun h_27 => ?_)
    · rw [hF.1 0 0 (by decide), hnb, shl_i nb (by omega)] at h_27
      exact absurd h_27 (nI_ge (by omega) (by omega))
    · refine V_aload_n (pc := 30) C 0 dX9_eachOne_30 rfl rfl ?_
      refine V_iload (pc := 31) C 4 dX9_eachOne_31 rfl ?_
      refine V_iload_n (pc := 33) C 1 dX9_eachOne_33 rfl rfl ?_
      refine V_iload_n (pc := 34) C 2 dX9_eachOne_34 rfl rfl ?_
      refine call_X9_270 (pc := 35) C (c_X9_crewCost (d := d - 1) hG (by omega) M1 (by rw [hF.1 0 0 (by decide)]; exact hnb) hn7 (by rw [hF.1 0 0 (by decide)]; exact hnt) ht7 hK hO hO7 hm (c2 := c2) (T := eTab c2 O m2 nb 128) hA (fun K' _ a ha => eTab_le hn7 hcb 128 (Nat.le_refl _) K' a ha) (fun b t h1 h2 h3 => by rw [hF.1 23 0 (by decide)]; exact hc b t h1 h2 h3) hcb) (by omega) (wg hG (by decide) (by decide)) (Nat.le_of_ble_eq_true rfl) dX9_eachOne_35 (fun x_35 M_35 h_35 => ?_)
      obtain ⟨e_9, h_v⟩ := h_35
      have e_9 := e_9.symm
      subst e_9
      rw [← hnew] at h_v
      refine Vs_istore (lv' := [(0, _), (1, _), (2, _), (3, _), (4, _), (5, _)]) (pc := 38) C dX9_eachOne_38 (by decide) rfl rfl ?_
      refine V_aload_n (pc := 40) C 0 dX9_eachOne_40 rfl rfl ?_
      refine get_X9_50 (pc := 41) C (wg hG (by decide) (by decide)) dX9_eachOne_41 ?_
      refine get_X9_273 (pc := 44) C (wg hG (by decide) (by decide)) dX9_eachOne_44 ?_
      refine V_iload (pc := 47) C 4 dX9_eachOne_47 rfl ?_
      refine V_iload (pc := 49) C 5 dX9_eachOne_49 rfl ?_
      refine V_iast (pc := 51) C (K) rfl hK (Nat.le_of_ble_eq_true rfl) (wg hG (by decide) (by decide)) (fun _ => wF_21) dX9_eachOne_51 ?_
      refine V_iload (pc := 52) C 5 dX9_eachOne_52 rfl ?_
      refine V_if_lt (tgt := 79) (pc := 54) C dX9_eachOne_54 (by decide) (fun h_54 => ?_) (fun h_54 => ?_)
      · have hz : eTab c2 O m2 nb 128 K = none := by
          cases hx : eTab c2 O m2 nb 128 K with
          | none => rfl
          | some a => rw [hx] at h_v; exact absurd h_54 (by rw [show x_35 = nI a from h_v]; exact nI_pos (by have := hle1 a hx; omega))
        have hq3 : ∀ M', Fr [21] M M' → Qf (encM (eBest (eTab c2 O m2 nb 128) m2 n (K + 1) cur)) M' := by
          rw [hz] at hq2
          intro M' h'
          have := hq2 M' h'
          split at this <;> exact this
        refine Vs_iinc (v := nI (K + 1)) (lv' := [(0, _), (1, _), (2, _), (3, _), (4, _), (5, _)]) (pc := 79) C 4 dX9_eachOne_79 rfl (by decide) rfl (nI_i1 (K)) rfl ?_
        refine V_goto (tgt := 19) (pc := 82) C dX9_eachOne_82 (by decide) ?_
        refine V_loc (lv' := [(0, _), (1, _), (2, _), (3, _), (4, _)]) [0, 1, 2, 3, 4] rfl ?_
        exact ih (K + 1) cur _ (by omega) (hFK _) (hAK _ h_v) hle hq3
      · have hz : ∃ a, eTab c2 O m2 nb 128 K = some a := by
          cases hx : eTab c2 O m2 nb 128 K with
          | none => rw [hx] at h_v; exact absurd h_v h_54
          | some a => exact ⟨a, rfl⟩
        obtain ⟨a, hz⟩ := hz
        have hle2 := hle1 a hz
        have hv2 := h_v
        rw [hz] at hv2
        have hv2 : x_35 = nI a := hv2
        rw [hz] at hq2
        refine V_iload (pc := 57) C 4 dX9_eachOne_57 rfl ?_
        refine call_X9_265 (pc := 59) C (c_J6_bitCount (d := d - 1) _ hK) (by omega) (Nat.le_of_ble_eq_true rfl) dX9_eachOne_59 (fun x_59 M_59 h_59 => ?_)
        obtain ⟨e_59, rfl⟩ := h_59
        have e_59 := e_59.symm
        subst e_59
        refine V_iload_n (pc := 62) C 2 dX9_eachOne_62 rfl rfl ?_
        refine V_icmp_ne (tgt := 79) (pc := 63) C dX9_eachOne_63 (by decide) (fun h_63 => ?_) (fun h_63 => ?_)
        · rw [nI_eq (by omega) (by omega)] at h_63
          rw [if_neg h_63] at hq2
          refine Vs_iinc (v := nI (K + 1)) (lv' := [(0, _), (1, _), (2, _), (3, _), (4, _), (5, _)]) (pc := 79) C 4 dX9_eachOne_79 rfl (by decide) rfl (nI_i1 (K)) rfl ?_
          refine V_goto (tgt := 19) (pc := 82) C dX9_eachOne_82 (by decide) ?_
          refine V_loc (lv' := [(0, _), (1, _), (2, _), (3, _), (4, _)]) [0, 1, 2, 3, 4] rfl ?_
          exact ih (K + 1) cur _ (by omega) (hFK _) (hAK _ h_v) hle hq2
        · rw [nI_eq (by omega) (by omega)] at h_63
          rw [if_pos h_63] at hq2
          refine V_iload_n (pc := 66) C 3 dX9_eachOne_66 rfl rfl ?_
          refine V_if_lt (tgt := 76) (pc := 67) C dX9_eachOne_67 (by decide) (fun h_67 => ?_) (fun h_67 => ?_)
          · have hcu : cur = none := by
              cases hx : cur with
              | none => rfl
              | some c0 => rw [hx] at h_67; exact absurd h_67 (nI_pos (by have := hle c0 hx; omega))
            subst hcu
            refine V_iload (pc := 76) C 5 dX9_eachOne_76 rfl ?_
            refine Vs_istore_n (lv' := [(0, _), (1, _), (2, _), (3, _), (4, _), (5, _)]) (pc := 78) C dX9_eachOne_78 rfl (by decide) rfl rfl ?_
            refine Vs_iinc (v := nI (K + 1)) (lv' := [(0, _), (1, _), (2, _), (3, _), (4, _), (5, _)]) (pc := 79) C 4 dX9_eachOne_79 rfl (by decide) rfl (nI_i1 (K)) rfl ?_
            refine V_goto (tgt := 19) (pc := 82) C dX9_eachOne_82 (by decide) ?_
            refine V_loc (lv' := [(0, _), (1, _), (2, _), (3, _), (4, _)]) [0, 1, 2, 3, 4] rfl ?_
            rw [show (.int x_35 : Value) = .int (encM (some a)) from by rw [hv2]; rfl]
            exact ih (K + 1) (some a) _ (by omega) (hFK _) (hAK _ (hv2 ▸ h_v)) (fun a' ha' => by cases ha'; omega) hq2
          · have hcu : ∃ c0, cur = some c0 := by
              cases hx : cur with
              | none => rw [hx] at h_67; exact absurd (by decide) h_67
              | some c0 => exact ⟨c0, rfl⟩
            obtain ⟨c0, rfl⟩ := hcu
            have hcb2 := hle c0 rfl
            refine V_iload (pc := 70) C 5 dX9_eachOne_70 rfl ?_
            refine V_iload_n (pc := 72) C 3 dX9_eachOne_72 rfl rfl ?_
            refine V_icmp_ge (tgt := 79) (pc := 73) C dX9_eachOne_73 (by decide) (fun h_73 => ?_) (fun h_73 => ?_)
            · rw [hv2, show encM (some c0) = nI c0 from rfl, nI_leI (by omega) (by omega)] at h_73
              rw [show minO (some c0) (some a) = some c0 from if_neg (by omega)] at hq2
              refine Vs_iinc (v := nI (K + 1)) (lv' := [(0, _), (1, _), (2, _), (3, _), (4, _), (5, _)]) (pc := 79) C 4 dX9_eachOne_79 rfl (by decide) rfl (nI_i1 (K)) rfl ?_
              refine V_goto (tgt := 19) (pc := 82) C dX9_eachOne_82 (by decide) ?_
              refine V_loc (lv' := [(0, _), (1, _), (2, _), (3, _), (4, _)]) [0, 1, 2, 3, 4] rfl ?_
              exact ih (K + 1) (some c0) _ (by omega) (hFK _) (hAK _ h_v) hle hq2
            · rw [hv2, show encM (some c0) = nI c0 from rfl, nI_leI (by omega) (by omega)] at h_73
              rw [show minO (some c0) (some a) = some a from if_pos (by omega)] at hq2
              refine V_iload (pc := 76) C 5 dX9_eachOne_76 rfl ?_
              refine Vs_istore_n (lv' := [(0, _), (1, _), (2, _), (3, _), (4, _), (5, _)]) (pc := 78) C dX9_eachOne_78 rfl (by decide) rfl rfl ?_
              refine Vs_iinc (v := nI (K + 1)) (lv' := [(0, _), (1, _), (2, _), (3, _), (4, _), (5, _)]) (pc := 79) C 4 dX9_eachOne_79 rfl (by decide) rfl (nI_i1 (K)) rfl ?_
              refine V_goto (tgt := 19) (pc := 82) C dX9_eachOne_82 (by decide) ?_
              refine V_loc (lv' := [(0, _), (1, _), (2, _), (3, _), (4, _)]) [0, 1, 2, 3, 4] rfl ?_
              rw [show (.int x_35 : Value) = .int (encM (some a)) from by rw [hv2]; rfl]
              exact ih (K + 1) (some a) _ (by omega) (hFK _) (hAK _ (hv2 ▸ h_v)) (fun a' ha' => by cases ha'; omega) hq2
theorem c_X9_eachOne (hG : 30 ≤ G) (hd : 7 ≤ d) (M : wS) {nb nt r e1 e2 e3 O : Nat} (hP : IP M nb nt r e1 e2 e3) (hU : kUnb M = nI O) (hO : O < 2 ^ nt) : Ctr l D cy ad G d yX9_eachOne cX9_eachOne 6 (some .int) [.ref (ad 0 0)] M (rI fun x M' => Scr M M' ∧ x = encM (eBest (eTab (kC2 M nb nt r e1 e2) O (pc7 O) nb 128) (pc7 O) (2 ^ nb) 0 none)) := by
  obtain ⟨⟨hnb, hn7⟩, ⟨hnt, ht7⟩, -⟩ := id hP
  have hO7 : O < 128 := Nat.lt_of_lt_of_le hO (pow8 nt (by omega))
  refine Ctr.of (lv0 := [(0, _)]) (by decide) (Nat.le_of_ble_eq_true rfl) rfl ?_
  intro p e s m args below meth c C hr hlk _
  have C : CX p s m args c cX9_eachOne 6 "CostsAge" D cy ad G (wA ad G) (Rm d) d 0 0 := C
  refine V_aload_n (pc := 0) C 0 dX9_eachOne_0 rfl rfl ?_
  refine call_X9_262 (pc := 1) C (c_X9_fillCosts (d := d - 1) hG (by omega) M hP) (by omega) (wg hG (by decide) (by decide)) (Nat.le_of_ble_eq_true rfl) dX9_eachOne_1 (fun M_1 h_1 => ?_)
  obtain ⟨hF, hA⟩ := h_1
  have hU2 : (1 <<< (M_1.1 0 0 12 &&& 31) - 1) &&& (M_1.1 26 0 3 ^^^ -1) = nI O := by rw [hF.1 0 0 (by decide), hF.1 26 0 (by decide)]; exact hU
  refine V_aload_n (pc := 4) C 0 dX9_eachOne_4 rfl rfl ?_
  refine call_X9_216 (pc := 5) C (c_X9_unbought (d := d - 1) hG M_1) (by omega) (wg hG (by decide) (by decide)) (Nat.le_of_ble_eq_true rfl) dX9_eachOne_5 (fun x_5 M_5 h_5 => ?_)
  obtain ⟨e_5, rfl⟩ := h_5
  have e_5 := e_5.symm
  subst e_5
  rw [hU2]
  refine Vs_istore_n (lv' := [(0, _), (1, _)]) (pc := 8) C dX9_eachOne_8 rfl (by decide) rfl rfl ?_
  refine V_iload_n (pc := 9) C 1 dX9_eachOne_9 rfl rfl ?_
  refine call_X9_265 (pc := 10) C (c_J6_bitCount (d := d - 1) M_1 hO7) (by omega) (Nat.le_of_ble_eq_true rfl) dX9_eachOne_10 (fun x_10 M_10 h_10 => ?_)
  obtain ⟨e_10, rfl⟩ := h_10
  have e_10 := e_10.symm
  subst e_10
  refine Vs_istore_n (lv' := [(0, _), (1, _), (2, _)]) (pc := 13) C dX9_eachOne_13 rfl (by decide) rfl rfl ?_
  refine V_iconst (v := -1) (pc := 14) C dX9_eachOne_14 (by decide) ?_
  refine Vs_istore_n (lv' := [(0, _), (1, _), (2, _), (3, _)]) (pc := 15) C dX9_eachOne_15 rfl (by decide) rfl rfl ?_
  refine V_iconst (v := 0) (pc := 16) C dX9_eachOne_16 (by decide) ?_
  refine Vs_istore (lv' := [(0, _), (1, _), (2, _), (3, _), (4, _)]) (pc := 17) C dX9_eachOne_17 (by decide) rfl rfl ?_
  refine lp_X9_eachOne C hr hlk hG (by omega) M_1 (by rw [hF.1 0 0 (by decide)]; exact hnb) hn7 (by rw [hF.1 0 0 (by decide)]; exact hnt) ht7 hO hO7 rfl (c2 := kC2 M nb nt r e1 e2) (fun b t h1 h2 _ => by rw [hA b t h1 h2]; exact kC2_enc h1 h2) (kC2_le hP) _ (2 ^ nb) 0 none M_1 (by omega) Fr.rf (fun K' h => by omega) (fun a ha => by cases ha) (fun M' h' => ⟨?_, rfl⟩)
  exact (hF.scr (by decide) (by decide)).tr (h'.scr (by decide) (by decide))
end S30
