theorem lw_le {L i : Nat} (hL : L ≤ 3072) (hi : i ≤ L) (h : ¬ nI L - 6 < nI i) : i + 6 ≤ L := by
  rw [Int32.lt_iff_toInt_lt, Int32.toInt_sub, nI_toInt (by omega), nI_toInt (by omega), show (6 : Int32).toInt = 6 from rfl, Int.bmod] at h
  omega
section S9g
variable {p : Program} {l : Launch} {e : Env} {R : Room} {s : State} {m : MethodId} {args : Array Value} {below : List Frame} {meth : Method} {c : Code} {D : va_G} {cy : Nat → ClassId} {ad : Nat → Nat → Nat} {A : Nat → Prop} {cells slots d : Nat} {Q : State → Prop} {b L : Nat} {xs : Nat → Int32}
theorem law_loop (C : CX p s m args c code 4 "CostsAgeLaw" D cy ad 56 A R d cells slots) (hd : 48 ≤ d) (hX : va_X b L xs s s.heap) (hbl : b < s.heap.size) (hbA : ¬ A b) (hL : L ≤ 3072) (fin : ∀ i M, V p l e R s m args below meth c 4 D cy ad 56 A cells slots Q 1103 [(0, .ref b), (1, .ref (ad 0 0)), (2, .ref (ad 30 0)), (3, .int (nI i))] [] M) : ∀ (n i : Nat) (M : wS), L ≤ i + n → i ≤ L → RZ M → V p l e R s m args below meth c 4 D cy ad 56 A cells slots Q 18 [(0, .ref b), (1, .ref (ad 0 0)), (2, .ref (ad 30 0)), (3, .int (nI i))] [] M := by
  have hL31 : L < 2 ^ 31 := by omega
  intro n
  induction n with
  | zero =>
    intro i M hn hi h
    refine V_iload_n (pc := 18) C 3 dlaw_18 rfl rfl ?_
    refine V_aload_n (pc := 19) C 0 dlaw_19 rfl rfl ?_
    refine V_slen (pc := 20) C hX hbl hbA dlaw_20 ?_
    refine V_bipush (v := 6) (pc := 21) C dlaw_21 (by decide) ?_
    refine V_isub (pc := 23) C dlaw_23 ?_
    refine V_icmp_gt (tgt := 1103) (pc := 24) C dlaw_24 (by decide) (fun h_24 => ?_) (fun h_24 => ?_)
    · exact fin i M
    · exact absurd (lw_le hL hi h_24) (by omega)
  | succ n ih =>
    intro i M hn hiL h
    have go : i + 6 ≤ L → ∀ M', RZ M' → V p l e R s m args below meth c 4 D cy ad 56 A cells slots Q 1097 [(0, .ref b), (1, .ref (ad 0 0)), (2, .ref (ad 30 0)), (3, .int (nI i))] [] M' := fun h6 M' h' => by
      refine Vs_iinc (v := nI (i + 6)) (lv' := [(0, _), (1, _), (2, _), (3, _)]) (pc := 1097) C 3 dlaw_1097 rfl (by decide) rfl (by rw [show Int32.ofInt 6 = nI 6 by decide, nI_add]) rfl ?_
      refine V_goto (tgt := 18) (pc := 1100) C dlaw_1100 (by decide) ?_
      exact ih (i + 6) M' (by omega) h6 h'
    refine V_iload_n (pc := 18) C 3 dlaw_18 rfl rfl ?_
    refine V_aload_n (pc := 19) C 0 dlaw_19 rfl rfl ?_
    refine V_slen (pc := 20) C hX hbl hbA dlaw_20 ?_
    refine V_bipush (v := 6) (pc := 21) C dlaw_21 (by decide) ?_
    refine V_isub (pc := 23) C dlaw_23 ?_
    refine V_icmp_gt (tgt := 1103) (pc := 24) C dlaw_24 (by decide) (fun h_24 => ?_) (fun h_24 => ?_)
    · exact fin i M
    · have hi := lw_le hL hiL h_24
      refine V_aload_n (pc := 27) C 0 dlaw_27 rfl rfl ?_
      refine V_iload_n (pc := 28) C 3 dlaw_28 rfl rfl ?_
      refine V_sld (pc := 29) C hX hbl hbA (i) rfl (by omega) hL31 dlaw_29 ?_
      refine V_bipush (v := 31) (pc := 30) C dlaw_30 (by decide) ?_
      refine V_iand (pc := 32) C dlaw_32 ?_
      refine V_tbl (pc := 33) C dlaw_33 rfl (fun j_33 o_33 t_33 ho_33 ht_33 h_33 _ => ?_) (fun t_33 ht_33 h_33 => ?_) (by decide +kernel) (by decide)
      · match j_33, ho_33, h_33 with
        | 0, ho_33, h_33 =>
          obtain rfl : ((139 : Int)) = o_33 := Option.some.inj ho_33
          obtain rfl : t_33 = 172 := by omega
          exact lc_buyer C hd hX hbl hbA hL31 hi h (go hi)
        | 1, ho_33, h_33 =>
          obtain rfl : ((182 : Int)) = o_33 := Option.some.inj ho_33
          obtain rfl : t_33 = 215 := by omega
          exact lc_thing C hd hX hbl hbA hL31 hi h (go hi)
        | 2, ho_33, h_33 =>
          obtain rfl : ((215 : Int)) = o_33 := Option.some.inj ho_33
          obtain rfl : t_33 = 248 := by omega
          exact lc_set C hd hX hbl hbA hL31 hi h (go hi)
        | 3, ho_33, h_33 =>
          obtain rfl : ((258 : Int)) = o_33 := Option.some.inj ho_33
          obtain rfl : t_33 = 291 := by omega
          exact lc_told C hd hX hbl hbA hL31 hi h (go hi)
        | 4, ho_33, h_33 =>
          obtain rfl : ((291 : Int)) = o_33 := Option.some.inj ho_33
          obtain rfl : t_33 = 324 := by omega
          exact lc_feed C hd hX hbl hbA hL31 hi h (go hi)
        | 5, ho_33, h_33 =>
          obtain rfl : ((314 : Int)) = o_33 := Option.some.inj ho_33
          obtain rfl : t_33 = 347 := by omega
          exact lc_text C hd hX hbl hbA hL31 hi h (go hi)
        | 6, ho_33, h_33 =>
          obtain rfl : ((327 : Int)) = o_33 := Option.some.inj ho_33
          obtain rfl : t_33 = 360 := by omega
          exact lc_force C hd hX hbl hbA hL31 hi h (go hi)
        | 7, ho_33, h_33 =>
          obtain rfl : ((350 : Int)) = o_33 := Option.some.inj ho_33
          obtain rfl : t_33 = 383 := by omega
          exact lc_years C hd hX hbl hbA hL31 hi h (go hi)
        | 8, ho_33, h_33 =>
          obtain rfl : ((383 : Int)) = o_33 := Option.some.inj ho_33
          obtain rfl : t_33 = 416 := by omega
          exact lc_cost C hd hX hbl hbA hL31 hi h (go hi)
        | 9, ho_33, h_33 =>
          obtain rfl : ((426 : Int)) = o_33 := Option.some.inj ho_33
          obtain rfl : t_33 = 459 := by omega
          exact lc_best C hd hX hbl hbA hL31 hi h (go hi)
        | 10, ho_33, h_33 =>
          obtain rfl : ((469 : Int)) = o_33 := Option.some.inj ho_33
          obtain rfl : t_33 = 502 := by omega
          exact lc_when C hd hX hbl hbA hL31 hi h (go hi)
        | 11, ho_33, h_33 =>
          obtain rfl : ((502 : Int)) = o_33 := Option.some.inj ho_33
          obtain rfl : t_33 = 535 := by omega
          exact lc_buy C hd hX hbl hbA hL31 hi h (go hi)
        | 12, ho_33, h_33 =>
          obtain rfl : ((535 : Int)) = o_33 := Option.some.inj ho_33
          obtain rfl : t_33 = 568 := by omega
          exact lc_pass C hd hX hbl hbA hL31 hi h (go hi)
        | 13, ho_33, h_33 =>
          obtain rfl : ((548 : Int)) = o_33 := Option.some.inj ho_33
          obtain rfl : t_33 = 581 := by omega
          exact lc_all C hd hX hbl hbA hL31 hi h (go hi)
        | 14, ho_33, h_33 =>
          obtain rfl : ((571 : Int)) = o_33 := Option.some.inj ho_33
          obtain rfl : t_33 = 604 := by omega
          exact lc_heap C hd hX hbl hbA hL31 hi h (go hi)
        | 15, ho_33, h_33 =>
          obtain rfl : ((594 : Int)) = o_33 := Option.some.inj ho_33
          obtain rfl : t_33 = 627 := by omega
          exact lc_eachOne C hd hX hbl hbA hL31 hi h (go hi)
        | 16, ho_33, h_33 =>
          obtain rfl : ((607 : Int)) = o_33 := Option.some.inj ho_33
          obtain rfl : t_33 = 640 := by omega
          exact lc_gain C hd hX hbl hbA hL31 hi h (go hi)
        | 17, ho_33, h_33 =>
          obtain rfl : ((641 : Int)) = o_33 := Option.some.inj ho_33
          obtain rfl : t_33 = 674 := by omega
          exact lc_year C hd hX hbl hbA hL31 hi h (go hi)
        | 18, ho_33, h_33 =>
          obtain rfl : ((654 : Int)) = o_33 := Option.some.inj ho_33
          obtain rfl : t_33 = 687 := by omega
          exact lc_rest C hd hX hbl hbA hL31 hi h (go hi)
        | 19, ho_33, h_33 =>
          obtain rfl : ((677 : Int)) = o_33 := Option.some.inj ho_33
          obtain rfl : t_33 = 710 := by omega
          exact lc_lies C hd hX hbl hbA hL31 hi h (go hi)
        | 20, ho_33, h_33 =>
          obtain rfl : ((700 : Int)) = o_33 := Option.some.inj ho_33
          obtain rfl : t_33 = 733 := by omega
          exact lc_judge C hd hX hbl hbA hL31 hi h (go hi)
        | 21, ho_33, h_33 =>
          obtain rfl : ((733 : Int)) = o_33 := Option.some.inj ho_33
          obtain rfl : t_33 = 766 := by omega
          exact lc_drawn C hd hX hbl hbA hL31 hi h (go hi)
        | 22, ho_33, h_33 =>
          obtain rfl : ((756 : Int)) = o_33 := Option.some.inj ho_33
          obtain rfl : t_33 = 789 := by omega
          exact lc_mean C hd hX hbl hbA hL31 hi h (go hi)
        | 23, ho_33, h_33 =>
          obtain rfl : ((780 : Int)) = o_33 := Option.some.inj ho_33
          obtain rfl : t_33 = 813 := by omega
          exact lc_image C hd hX hbl hbA hL31 hi h (go hi)
        | 24, ho_33, h_33 =>
          obtain rfl : ((793 : Int)) = o_33 := Option.some.inj ho_33
          obtain rfl : t_33 = 826 := by omega
          exact lc_back C hd hX hbl hbA hL31 hi h (go hi)
        | 25, ho_33, h_33 =>
          obtain rfl : ((806 : Int)) = o_33 := Option.some.inj ho_33
          obtain rfl : t_33 = 839 := by omega
          exact lc_count C hd hX hbl hbA hL31 hi h (go hi)
        | 26, ho_33, h_33 =>
          obtain rfl : ((829 : Int)) = o_33 := Option.some.inj ho_33
          obtain rfl : t_33 = 862 := by omega
          exact lc_sheet C hd hX hbl hbA hL31 hi h (go hi)
        | 27, ho_33, h_33 =>
          obtain rfl : ((872 : Int)) = o_33 := Option.some.inj ho_33
          obtain rfl : t_33 = 905 := by omega
          exact lc_cell C hd hX hbl hbA hL31 hi h (go hi)
        | 28, ho_33, h_33 =>
          obtain rfl : ((915 : Int)) = o_33 := Option.some.inj ho_33
          obtain rfl : t_33 = 948 := by omega
          exact lc_copy C hd hX hbl hbA hL31 hi h (go hi)
        | 29, ho_33, h_33 =>
          obtain rfl : ((978 : Int)) = o_33 := Option.some.inj ho_33
          obtain rfl : t_33 = 1011 := by omega
          exact lc_things C hd hX hbl hbA hL31 hi h (go hi)
        | 30, ho_33, h_33 =>
          obtain rfl : ((1031 : Int)) = o_33 := Option.some.inj ho_33
          obtain rfl : t_33 = 1064 := by omega
          exact lc_taken C hd hX hbl hbA hL31 hi h (go hi)
        | _ + 31, ho_33, h_33 => exact absurd ho_33 (by simp)
      · obtain rfl : t_33 = 1097 := by omega
        exact go hi _ h
end S9g
