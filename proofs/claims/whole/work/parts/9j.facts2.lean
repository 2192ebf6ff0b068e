theorem wK_of {args : Array Value} {s : State} (hts : ∀ w ∈ lw_tbl, w.before args s = true) : ∃ (D : va_G) (cy : Nat → ClassId), va_K D classes (wTys cy) s := by
  obtain ⟨c0, s0, k0⟩ := u_known (C := "CostsAge$Buyer") (T := TX0) (N := 3) (n := 3) hts (fun w hw => good_tbl (inX0 w hw)) (hts _ (good_tbl qin_0))
  obtain ⟨c1, s1, k1⟩ := u_known (C := "CostsAge$Fees") (T := TX1) (N := 3) (n := 3) hts (fun w hw => good_tbl (inX1 w hw)) (hts _ (good_tbl qin_1))
  obtain ⟨c2, s2, k2⟩ := u_known (C := "CostsAge$Plan") (T := TX2) (N := 5) (n := 5) hts (fun w hw => good_tbl (inX2 w hw)) (hts _ (good_tbl qin_2))
  obtain ⟨c3, s3, k3⟩ := u_known (C := "CostsAge$Reader") (T := TX3) (N := 8) (n := 8) hts (fun w hw => good_tbl (inX3 w hw)) (hts _ (good_tbl qin_3))
  obtain ⟨c4, s4, k4⟩ := u_known (C := "CostsAge$Scene") (T := TX4) (N := 3) (n := 3) hts (fun w hw => good_tbl (inX4 w hw)) (hts _ (good_tbl qin_4))
  obtain ⟨c5, s5, k5⟩ := u_known (C := "CostsAge$Sheet") (T := TX5) (N := 3) (n := 3) hts (fun w hw => good_tbl (inX5 w hw)) (hts _ (good_tbl qin_5))
  obtain ⟨c6, s6, k6⟩ := u_known (C := "CostsAge$Standing") (T := TX6) (N := 11) (n := 11) hts (fun w hw => good_tbl (inX6 w hw)) (hts _ (good_tbl qin_6))
  obtain ⟨c7, s7, k7⟩ := u_known (C := "CostsAge$Text") (T := TX7) (N := 4) (n := 4) hts (fun w hw => good_tbl (inX7 w hw)) (hts _ (good_tbl qin_7))
  obtain ⟨c8, s8, k8⟩ := u_known (C := "CostsAge$Ware") (T := TX8) (N := 2) (n := 2) hts (fun w hw => good_tbl (inX8 w hw)) (hts _ (good_tbl qin_8))
  obtain ⟨c9, s9, k9⟩ := u_known (C := "CostsAge") (T := TX9) (N := 14) (n := 14) hts (fun w hw => good_tbl (inX9 w hw)) (hts _ (good_tbl qin_9))
  obtain ⟨c10, s10, k10⟩ := u_known (C := "CostsAgeModel") (T := TX10) (N := 61) (n := 61) hts (fun w hw => good_tbl (inX10 w hw)) (hts _ (good_tbl qin_10))
  obtain ⟨a0, ka0, pa0, ha01, ha02, ha03⟩ := Cond.arrayClass_spec (hts _ (good_tbl qar_int))
  obtain ⟨a1, ka1, pa1, ha11, ha12, ha13⟩ := Cond.arrayClass_spec (hts _ (good_tbl qar_boolean))
  obtain ⟨p2, a2, q2, h21, h22, h23, h24, h25⟩ := Cond.arrayOver_spec (hts _ qao_Buyer)
  obtain ⟨p3, a3, q3, h31, h32, h33, h34, h35⟩ := Cond.arrayOver_spec (hts _ qao_Ware)
  obtain ⟨p4, a4, q4, h41, h42, h43, h44, h45⟩ := Cond.arrayOver_spec (hts _ qao_Text)
  obtain ⟨p5, a5, q5, h51, h52, h53, h54, h55⟩ := Cond.arrayOver_spec (hts _ qao_Sheet)
  refine ⟨(fun k => [c0, c1, c2, c3, c4, c5, c6, c7, c8, c9, c10].getD k 0, fun k => [s0, s1, s2, s3, s4, s5, s6, s7, s8, s9, s10].getD k (fun _ => 0)), fun k => [a0, a1, a2, a3, a4, a5].getD k 0, ?_, ?_⟩
  · intro k q hq
    match k, hq with
    | 0, hq => cases hq; exact k0
    | 1, hq => cases hq; exact k1
    | 2, hq => cases hq; exact k2
    | 3, hq => cases hq; exact k3
    | 4, hq => cases hq; exact k4
    | 5, hq => cases hq; exact k5
    | 6, hq => cases hq; exact k6
    | 7, hq => cases hq; exact k7
    | 8, hq => cases hq; exact k8
    | 9, hq => cases hq; exact k9
    | 10, hq => cases hq; exact k10
    | _ + 11, hq => simp [classes] at hq
  · intro k q hq
    match k, hq with
    | 0, hq => cases hq; exact ⟨fun n z => ⟨fun k h => (by cases h), ka0, ha02, pa0, ha03⟩, ha01⟩
    | 1, hq => cases hq; exact ⟨fun n z => ⟨fun k h => (by cases h), ka1, ha12, pa1, ha13⟩, ha11⟩
    | 2, hq => cases hq; exact ⟨fun n z => ⟨fun k h => (by cases h), q2, h23, p2, h24⟩, q2, p2, h23, h24, h21, h25⟩
    | 3, hq => cases hq; exact ⟨fun n z => ⟨fun k h => (by cases h), q3, h33, p3, h34⟩, q3, p3, h33, h34, h31, h35⟩
    | 4, hq => cases hq; exact ⟨fun n z => ⟨fun k h => (by cases h), q4, h43, p4, h44⟩, q4, p4, h43, h44, h41, h45⟩
    | 5, hq => cases hq; exact ⟨fun n z => ⟨fun k h => (by cases h), q5, h53, p5, h54⟩, q5, p5, h53, h54, h51, h55⟩
    | _ + 6, hq => simp [wTys] at hq
theorem wAO_of {args : Array Value} {s : State} (hts : ∀ w ∈ lw_tbl, w.before args s = true) : wAO s := ⟨va_AO.of (hts _ qao_Buyer), va_AO.of (hts _ qao_Ware), va_AO.of (hts _ qao_Text), va_AO.of (hts _ qao_Sheet)⟩
theorem wNest_of {args : Array Value} {s : State} (hts : ∀ w ∈ lw_tbl, w.before args s = true) : wNest s := ⟨fun a i b n d h w => va_Nw.of rfl (hts _ w), fun a i y h w => va_Nw.of rfl (hts _ w)⟩
theorem wEn_of {D : va_G} {cy : Nat → ClassId} {args : Array Value} {s : State} (hts : ∀ w ∈ lw_tbl, w.before args s = true) (hgv : (Jvm.Cond.and given_1 narrow_1).before args s = true) (hK : va_K D classes (wTys cy) s) : ∃ adS : Nat → Nat → Nat, wEn D cy adS (fun q : Nat => s.heap.size ≤ q) s s.heap := by
  have hs := flat_of_before _ hgv
  have hA : ∀ a : Nat, a < s.heap.size → ¬ (fun q : Nat => s.heap.size ≤ q) a := fun a h => Nat.not_le.mpr h
  obtain ⟨adK, adV, hS, hE⟩ := vk_Sof (N := 13) (tm := wTm) (len := wTlen) (byt := wTby) (args := args) (s := s) (A := fun q : Nat => s.heap.size ≤ q) (by decide) (fun i h => hs _ (sf_ex i h)) (fun i h => hs _ (sf_co i h)) (fun i h => hs _ (sf_ar i h)) (fun i h => hs _ (sf_le i h)) (fun i h j hj => hs _ (sf_el i h j hj)) (fun i j h1 h2 h3 => (sf_ne i h1 j h2 h3).imp (fun z => hs _ z) (fun z => hs _ z)) hA
  obtain ⟨t, ht, hT⟩ := va_Tof (tm := .static "CostsAge" "UNDER" "[I") (ty := .int) (N := 6) (f := fun j => .int (wUnder j)) (A := fun q : Nat => s.heap.size ≤ q) (by decide) (hs _ sf_u1) (va_eqt (hs _ sf_u2)) (fun j hj => va_eqt (hs _ (sf_ue j hj))) hA
  refine ⟨fun g i => if g = 60 then t else if g = 61 then adK i else adV i, hK, wNest_of hts, ⟨va_Zref (hts _ sf_ls1) (hts _ (good_tbl qn_CostsAge)) ht hA, hT⟩, hS, fun i q h => vk_R.of (hts _ (sf_sr i q h)) (by rw [← wTm_at h]; exact hE i (wTx_13 h)), va_Zof (hts _ sf_ls2) (hts _ (good_tbl qn_java_lang_String)) (va_eqt (hs _ sf_u3)) hA, va_Zqof (hts _ sf_ls3) (hts _ (good_tbl qn_jdk_internal_util_Preconditions)) (hs _ sf_u4) hA⟩
