theorem u_pass0 (M : wS) : up30 M (kPass0 M) := by
  unfold kPass0
  split
  · exact up30.rf.set _ (by decide)
  · exact ((up30.rf.set _ (by decide)).set _ (by decide)).set _ (by decide)
theorem u_pass (M : wS) (nb : Nat) : up30 M (kPass M nb).2 := (u_pass0 M).tr (u_ploop _ _ _)
section S9a
variable {l : Launch} {D : va_G} {cy : Nat → ClassId} {ad : Nat → Nat → Nat} {G d : Nat}
theorem p_buyer (hG : 56 ≤ G) (hd : 47 ≤ d) {M : wS} (hz : RZ M) (a b c : Int32) : Both l D cy ad G d yX9_buyer cX9_buyer 5 [.ref (ad 0 0), .int a, .int b, .int c] yX10_buyer cX10_buyer 4 [.ref (ad 30 0), .int a, .int b, .int c] M := by
  obtain ⟨nb, nt, tc, z, bo, r, h⟩ := hz
  have c1 := h.1
  have hu : up30 M (kBuyer M nb a b c).2 := u_buyer _ _ _ _ _
  exact ⟨_, c_X9_buyer (Nat.le_trans (by decide) hG) (by omega) M c1.1.1 c1.1.2 a b c, fun x M1 e => Ctr.imp (o_buyer hG (by omega) (show RR M M1 nb nt tc z bo r from h.up (by rw [show M1 = (kBuyer M nb a b c).2 from congrArg Prod.snd e]; exact hu)) a b c) (fun x2 M2 g => RZ.go e g)⟩
theorem p_thing (hG : 56 ≤ G) (hd : 47 ≤ d) {M : wS} (hz : RZ M) (a b : Int32) : Both l D cy ad G d yX9_thing cX9_thing 3 [.ref (ad 0 0), .int a, .int b] yX10_thing cX10_thing 3 [.ref (ad 30 0), .int a, .int b] M := by
  obtain ⟨nb, nt, tc, z, bo, r, h⟩ := hz
  have c1 := h.1
  have hu : up30 M (kThing M nt a b).2 := u_thing _ _ _ _
  exact ⟨_, c_X9_thing (Nat.le_trans (by decide) hG) (by omega) M c1.2.1.1 c1.2.1.2 a b, fun x M1 e => Ctr.imp (o_thing hG (by omega) (show RR M M1 nb nt tc z bo r from h.up (by rw [show M1 = (kThing M nt a b).2 from congrArg Prod.snd e]; exact hu)) a b) (fun x2 M2 g => RZ.go e g)⟩
theorem p_set (hG : 56 ≤ G) (hd : 47 ≤ d) {M : wS} (hz : RZ M) (a b c : Int32) : Both l D cy ad G d yX9_set cX9_set 4 [.ref (ad 0 0), .int a, .int b, .int c] yX10_set cX10_set 5 [.ref (ad 30 0), .int a, .int b, .int c] M := by
  obtain ⟨nb, nt, tc, z, bo, r, h⟩ := hz
  have c1 := h.1
  have hu : up30 M (kSet M nb nt a b c).2 := u_set _ _ _ _ _ _
  exact ⟨_, c_X9_set (Nat.le_trans (by decide) hG) (by omega) M c1.1.1 c1.1.2 c1.2.1.1 c1.2.1.2 a b c, fun x M1 e => Ctr.imp (o_set hG (by omega) (show RR M M1 nb nt tc z bo r from h.up (by rw [show M1 = (kSet M nb nt a b c).2 from congrArg Prod.snd e]; exact hu)) a b c) (fun x2 M2 g => RZ.go e g)⟩
theorem p_told (hG : 56 ≤ G) (hd : 47 ≤ d) {M : wS} (hz : RZ M) (a b : Int32) : Both l D cy ad G d yX9_told cX9_told 3 [.ref (ad 0 0), .int a, .int b] yX10_told cX10_told 3 [.ref (ad 30 0), .int a, .int b] M := by
  obtain ⟨nb, nt, tc, z, bo, r, h⟩ := hz
  have c1 := h.1
  exact ⟨_, c_X9_told (Nat.le_trans (by decide) hG) (by omega) M c1.1.1 c1.1.2 c1.2.1.1 c1.2.1.2 h.2.2.1 a b, fun x M1 e => Ctr.imp (o_told hG (by omega) (show RR M M1 nb nt tc z bo r by rw [e.1]; exact h) a b) (fun x2 M2 g => RZ.go (Prod.ext e.2 e.1) g)⟩
theorem p_feed (hG : 56 ≤ G) (hd : 47 ≤ d) {M : wS} (hz : RZ M) (a : Int32) : Both l D cy ad G d yX9_feed cX9_feed 2 [.ref (ad 0 0), .int a] yX10_feed cX10_feed 2 [.ref (ad 30 0), .int a] M := by
  obtain ⟨nb, nt, tc, z, bo, r, h⟩ := hz
  have c1 := h.1
  have hu : up30 M (kFeed M z a).2 := u_feed _ _ _
  exact ⟨_, c_X9_feed (Nat.le_trans (by decide) hG) (by omega) M h.2.2.2.2.2.1.1 h.2.2.2.2.2.1.2.1 a, fun x M1 e => Ctr.imp (o_feed hG (by omega) (show RR M M1 nb nt tc z bo r from h.up (by rw [show M1 = (kFeed M z a).2 from congrArg Prod.snd e]; exact hu)) a) (fun x2 M2 g => RZ.go e g)⟩
theorem p_text (hG : 56 ≤ G) (hd : 47 ≤ d) {M : wS} (hz : RZ M) : Both l D cy ad G d yX9_text cX9_text 2 [.ref (ad 0 0)] yX10_text cX10_text 2 [.ref (ad 30 0)] M := by
  obtain ⟨nb, nt, tc, z, bo, r, h⟩ := hz
  have c1 := h.1
  exact ⟨_, c_X9_text (Nat.le_trans (by decide) hG) (by omega) M rfl h.2.2.2.2.2.1.1 h.2.2.2.2.2.1.2.1 c1.2.2.1.1 c1.2.2.1.2.2, fun x M1 e => Ctr.imp (o_text hG (by omega) (h.up (u_text (z := z) e)) (x0 := x) (M0' := M1) e) (fun x2 M2 g => RZ.go (K := (x, M1)) rfl g)⟩
theorem p_force (hG : 56 ≤ G) (hd : 47 ≤ d) {M : wS} (hz : RZ M) (a : Int32) : Both l D cy ad G d yX9_force cX9_force 3 [.ref (ad 0 0), .int a] yX10_force cX10_force 3 [.ref (ad 30 0), .int a] M := by
  obtain ⟨nb, nt, tc, z, bo, r, h⟩ := hz
  have c1 := h.1
  have hu : up30 M (kForce M a).2 := u_force _ _
  exact ⟨_, c_X9_force (Nat.le_trans (by decide) hG) M a, fun x M1 e => Ctr.imp (o_force hG (by omega) (show RR M M1 nb nt tc z bo r from h.up (by rw [show M1 = (kForce M a).2 from congrArg Prod.snd e]; exact hu)) a) (fun x2 M2 g => RZ.go e g)⟩
theorem p_years (hG : 56 ≤ G) (hd : 47 ≤ d) {M : wS} (hz : RZ M) (a b : Int32) : Both l D cy ad G d yX9_years cX9_years 3 [.ref (ad 0 0), .int a, .int b] yX10_years cX10_years 3 [.ref (ad 30 0), .int a, .int b] M := by
  obtain ⟨nb, nt, tc, z, bo, r, h⟩ := hz
  have c1 := h.1
  exact ⟨_, c_X9_years (Nat.le_trans (by decide) hG) (by omega) M c1.1.1 c1.1.2 a b, fun x M1 e => Ctr.imp (o_years hG (by omega) (show RR M M1 nb nt tc z bo r by rw [e.1]; exact h) a b) (fun x2 M2 g => RZ.go (Prod.ext e.2 e.1) g)⟩
theorem p_cost (hG : 56 ≤ G) (hd : 47 ≤ d) {M : wS} (hz : RZ M) (a b c : Int32) : Both l D cy ad G d yX9_cost cX9_cost 4 [.ref (ad 0 0), .int a, .int b, .int c] yX10_cost cX10_cost 4 [.ref (ad 30 0), .int a, .int b, .int c] M := by
  obtain ⟨nb, nt, tc, z, bo, r, h⟩ := hz
  have c1 := h.1
  obtain ⟨e1, e2, e3, hC⟩ := h.rC
  obtain ⟨hbo, hU⟩ := h.uO
  have hP := hC.1
  exact ⟨_, c_X9_cost (Nat.le_trans (by decide) hG) (by omega) M hP a b c, fun x M1 e => Ctr.imp (r_cost hG (by omega) (hC.up e.1.mE) hU a b c) (fun x2 M2 g => ⟨two_eq e.2.1 e.2.2 g.2.1 g.2.2, h.ask e.1 g.1⟩)⟩
theorem p_best (hG : 56 ≤ G) (hd : 47 ≤ d) {M : wS} (hz : RZ M) (a b c : Int32) : Both l D cy ad G d yX9_best cX9_best 5 [.ref (ad 0 0), .int a, .int b, .int c] yX10_best cX10_best 5 [.ref (ad 30 0), .int a, .int b, .int c] M := by
  obtain ⟨nb, nt, tc, z, bo, r, h⟩ := hz
  have c1 := h.1
  obtain ⟨e1, e2, e3, hC⟩ := h.rC
  obtain ⟨hbo, hU⟩ := h.uO
  have hP := hC.1
  exact ⟨_, c_X9_best (Nat.le_trans (by decide) hG) (by omega) M hP a b c, fun x M1 e => Ctr.imp (r_best hG (by omega) (hC.up e.1.mE) hU a b c) (fun x2 M2 g => ⟨two_eq e.2.1 e.2.2 g.2.1 g.2.2, h.ask e.1 g.1⟩)⟩
theorem p_when (hG : 56 ≤ G) (hd : 47 ≤ d) {M : wS} (hz : RZ M) (a b : Int32) : Both l D cy ad G d yX9_when cX9_when 7 [.ref (ad 0 0), .int a, .int b] yX10_when cX10_when 4 [.ref (ad 30 0), .int a, .int b] M := by
  obtain ⟨nb, nt, tc, z, bo, r, h⟩ := hz
  have c1 := h.1
  obtain ⟨e1, e2, e3, hC⟩ := h.rC
  obtain ⟨hbo, hU⟩ := h.uO
  have hP := hC.1
  exact ⟨_, c_X9_when (Nat.le_trans (by decide) hG) (by omega) M hP a b, fun x M1 e => Ctr.imp (r_when hG (by omega) (hC.up e.1.mE) a b) (fun x2 M2 g => ⟨(by
    by_cases y : (0 ≤ a ∧ a < nI nt) ∧ (0 ≤ b ∧ b ≤ 1)
    · exact two_eq (e.2.1 y).1 (e.2.1 y).2 (g.2.1 y).1 (g.2.1 y).2
    · rw [e.2.2 y, g.2.2 y]), h.ask e.1 g.1⟩)⟩
theorem p_pass (hG : 56 ≤ G) (hd : 47 ≤ d) {M : wS} (hz : RZ M) : Both l D cy ad G d yX9_pass cX9_pass 2 [.ref (ad 0 0)] yX10_pass cX10_pass 2 [.ref (ad 30 0)] M := by
  obtain ⟨nb, nt, tc, z, bo, r, h⟩ := hz
  have c1 := h.1
  have hu : up30 M (kPass M nb).2 := u_pass M nb
  exact ⟨_, c_X9_pass (Nat.le_trans (by decide) hG) (by omega) M c1.1.1 c1.1.2, fun x M1 e => Ctr.imp (o_pass hG (by omega) (show RR M M1 nb nt tc z bo r from h.up (by rw [show M1 = (kPass M nb).2 from congrArg Prod.snd e]; exact hu))) (fun x2 M2 g => RZ.go e g)⟩
theorem p_all (hG : 56 ≤ G) (hd : 47 ≤ d) {M : wS} (hz : RZ M) (a : Int32) : Both l D cy ad G d yX9_all cX9_all 3 [.ref (ad 0 0), .int a] yX10_all cX10_all 3 [.ref (ad 30 0), .int a] M := by
  obtain ⟨nb, nt, tc, z, bo, r, h⟩ := hz
  have c1 := h.1
  obtain ⟨e1, e2, e3, hC⟩ := h.rC
  obtain ⟨hbo, hU⟩ := h.uO
  have hP := hC.1
  exact ⟨_, c_X9_all (Nat.le_trans (by decide) hG) (by omega) M hP hU.1 hU.2.2 h.2.2.2.2.2.2.2.2.2 a, fun x M1 e => Ctr.imp (r_all hG (by omega) (hC.up e.1.mE) hU a) (fun x2 M2 g => ⟨two_eq e.2.1 e.2.2 g.2.1 g.2.2, h.ask e.1 g.1⟩)⟩
theorem p_heap (hG : 56 ≤ G) (hd : 47 ≤ d) {M : wS} (hz : RZ M) (a : Int32) : Both l D cy ad G d yX9_heap cX9_heap 2 [.ref (ad 0 0), .int a] yX10_heap cX10_heap 3 [.ref (ad 30 0), .int a] M := by
  obtain ⟨nb, nt, tc, z, bo, r, h⟩ := hz
  have c1 := h.1
  obtain ⟨e1, e2, e3, hC⟩ := h.rC
  obtain ⟨hbo, hU⟩ := h.uO
  have hP := hC.1
  exact ⟨_, c_X9_heap (Nat.le_trans (by decide) hG) (by omega) M hP hU.1 hU.2.2 h.2.2.2.2.2.2.2.2.2 a, fun x M1 e => Ctr.imp (r_heap hG (by omega) (hC.up e.1.mE) hU h.2.1.1.1 hbo a) (fun x2 M2 g => ⟨(by
    by_cases y : 0 ≤ a ∧ a < nI nt
    · by_cases y2 : hasB (M.1 26 0 3) a.toNatClampNeg
      · rw [(e.2.1 y).1 y2, (g.2.1 y).1 y2]
      · cases y3 : plTab (kPr M ((2 ^ nt - 1) &&& (127 ^^^ bo)) nb nt r e1 e2) 128 ((2 ^ nt - 1) &&& (127 ^^^ bo)) with
        | none => rw [((e.2.1 y).2 y2).1 y3, ((g.2.1 y).2 y2).1 y3]
        | some q => rw [((e.2.1 y).2 y2).2 ⟨q, y3⟩, ((g.2.1 y).2 y2).2 ⟨q, y3⟩]
    · rw [e.2.2 y, g.2.2 y]), h.ask e.1 g.1⟩)⟩
theorem p_eachOne (hG : 56 ≤ G) (hd : 47 ≤ d) {M : wS} (hz : RZ M) : Both l D cy ad G d yX9_eachOne cX9_eachOne 6 [.ref (ad 0 0)] yX10_eachOne cX10_eachOne 6 [.ref (ad 30 0)] M := by
  obtain ⟨nb, nt, tc, z, bo, r, h⟩ := hz
  have c1 := h.1
  obtain ⟨e1, e2, e3, hC⟩ := h.rC
  obtain ⟨hbo, hU⟩ := h.uO
  have hP := hC.1
  exact ⟨_, c_X9_eachOne (Nat.le_trans (by decide) hG) (by omega) M hP hU.1 hU.2.1, fun x M1 e => Ctr.imp (r_eachOne hG (by omega) (hC.up e.1.mE) hU h.2.1.1.1 hbo) (fun x2 M2 g => ⟨e.2.trans g.2.symm, h.ask e.1 g.1⟩)⟩
theorem p_gain (hG : 56 ≤ G) (hd : 47 ≤ d) {M : wS} (hz : RZ M) (a b : Int32) : BothL l D cy ad G d yX9_gain cX9_gain 8 [.ref (ad 0 0), .int a, .int b] yX10_gain cX10_gain 8 [.ref (ad 30 0), .int a, .int b] M := by
  obtain ⟨nb, nt, tc, z, bo, r, h⟩ := hz
  have c1 := h.1
  obtain ⟨e1, e2, e3, hC⟩ := h.rC
  obtain ⟨hbo, hU⟩ := h.uO
  have hP := hC.1
  exact ⟨_, c_X9_gain (Nat.le_trans (by decide) hG) (by omega) M hP a b, fun x M1 e => Ctr.impL (r_gain hG (by omega) (hC.up e.1.mE) a b) (fun x2 M2 g => ⟨two_eqL e.2.1 e.2.2 g.2.1 g.2.2, h.ask e.1 g.1⟩)⟩
theorem p_year (hG : 56 ≤ G) (hd : 47 ≤ d) {M : wS} (hz : RZ M) : Both l D cy ad G d yX9_year cX9_year 3 [.ref (ad 0 0)] yX10_year cX10_year 3 [.ref (ad 30 0)] M := by
  obtain ⟨nb, nt, tc, z, bo, r, h⟩ := hz
  have c1 := h.1
  obtain ⟨e1, e2, e3, hC⟩ := h.rC
  obtain ⟨hbo, hU⟩ := h.uO
  have hP := hC.1
  exact ⟨_, c_X9_year (Nat.le_trans (by decide) hG) (by omega) M hP, fun x M1 e => Ctr.imp (r_year hG (by omega) (hC.up e.1.mE)) (fun x2 M2 g => ⟨e.2.trans g.2.symm, h.ask e.1 g.1⟩)⟩
theorem p_rest (hG : 56 ≤ G) (hd : 47 ≤ d) {M : wS} (hz : RZ M) (a : Int32) : Both l D cy ad G d yX9_rest cX9_rest 5 [.ref (ad 0 0), .int a] yX10_rest cX10_rest 10 [.ref (ad 30 0), .int a] M := by
  obtain ⟨nb, nt, tc, z, bo, r, h⟩ := hz
  have c1 := h.1
  obtain ⟨e1, e2, e3, hC⟩ := h.rC
  obtain ⟨hbo, hU⟩ := h.uO
  have hP := hC.1
  exact ⟨_, c_X9_rest (Nat.le_trans (by decide) hG) (by omega) M hP a, fun x M1 e => Ctr.imp (r_rest hG (by omega) (hC.up e.1.mE) a) (fun x2 M2 g => ⟨two_eq e.2.1 e.2.2 g.2.1 g.2.2, h.ask e.1 g.1⟩)⟩
theorem p_lies (hG : 56 ≤ G) (hd : 47 ≤ d) {M : wS} (hz : RZ M) (a : Int32) : Both l D cy ad G d yX9_lies cX9_lies 5 [.ref (ad 0 0), .int a] yX10_lies cX10_lies 4 [.ref (ad 30 0), .int a] M := by
  obtain ⟨nb, nt, tc, z, bo, r, h⟩ := hz
  have c1 := h.1
  exact ⟨_, c_X9_lies (Nat.le_trans (by decide) hG) (by omega) M c1.1.1 c1.1.2 a, fun x M1 e => Ctr.imp (o_lies hG (by omega) (show RR M M1 nb nt tc z bo r by rw [e.1]; exact h) a) (fun x2 M2 g => RZ.go (Prod.ext e.2 e.1) g)⟩
theorem p_judge (hG : 56 ≤ G) (hd : 47 ≤ d) {M : wS} (hz : RZ M) (a b : Int32) : Both l D cy ad G d yX9_judge cX9_judge 9 [.ref (ad 0 0), .int a, .int b] yX10_judge cX10_judge 10 [.ref (ad 30 0), .int a, .int b] M := by
  obtain ⟨nb, nt, tc, z, bo, r, h⟩ := hz
  have c1 := h.1
  obtain ⟨e1, e2, e3, hC⟩ := h.rC
  obtain ⟨hbo, hU⟩ := h.uO
  have hP := hC.1
  exact ⟨_, c_X9_judge (Nat.le_trans (by decide) hG) (by omega) M hP (fun k hk => by obtain ⟨n, s1, s2, -⟩ := h.2.2.2.2.2.2.2.1 k hk; exact ⟨n, s2, s1⟩) a b, fun x M1 e => Ctr.imp (r_judge hG (by omega) (hC.up e.1.mE) (h.both cE.rf e.1.mE).2.2.2.2.2.2.2.1 a b) (fun x2 M2 g => ⟨(by
    by_cases y : kJudgeOK M a b
    · obtain ⟨k, hk, rfl⟩ := ix_of (n := 4) y.1.1 y.1.2 (by decide)
      obtain ⟨n, s1, s2, -⟩ := h.2.2.2.2.2.2.2.1 k hk
      rw [e.2.1 y k n rfl hk s2 s1, g.2.1 y k n rfl hk s2 s1]
    · rw [e.2.2 y, g.2.2 y]), h.ask e.1 g.1⟩)⟩
theorem p_drawn (hG : 56 ≤ G) (hd : 47 ≤ d) {M : wS} (hz : RZ M) (a : Int32) : Both l D cy ad G d yX9_drawn cX9_drawn 6 [.ref (ad 0 0), .int a] yX10_drawn cX10_drawn 6 [.ref (ad 30 0), .int a] M := by
  obtain ⟨nb, nt, tc, z, bo, r, h⟩ := hz
  have c1 := h.1
  obtain ⟨e1, e2, e3, hC⟩ := h.rC
  obtain ⟨hbo, hU⟩ := h.uO
  have hP := hC.1
  exact ⟨_, c_X9_drawn (Nat.le_trans (by decide) hG) (by omega) M hP a, fun x M1 e => Ctr.imp (r_drawn hG (by omega) (hC.up e.1.mE) a) (fun x2 M2 g => ⟨e.2.trans g.2.symm, h.ask e.1 g.1⟩)⟩
theorem p_mean (hG : 56 ≤ G) (hd : 47 ≤ d) {M : wS} (hz : RZ M) (a : Int32) : BothL l D cy ad G d yX9_mean cX9_mean 4 [.ref (ad 0 0), .int a] yX10_mean cX10_mean 10 [.ref (ad 30 0), .int a] M := by
  obtain ⟨nb, nt, tc, z, bo, r, h⟩ := hz
  have c1 := h.1
  exact ⟨_, c_X9_mean (Nat.le_trans (by decide) hG) (by omega) M c1.1.1 c1.1.2 a, fun x M1 e => Ctr.impL (o_mean hG (by omega) (M0 := M) (M := M1) (show RR M M1 nb nt tc z bo r by rw [e.1]; exact h) a) (fun x2 M2 g => ⟨e.2.trans g.2.symm, by rw [g.1, e.1]; exact ⟨nb, nt, tc, z, bo, r, h⟩⟩)⟩
theorem p_image (hG : 56 ≤ G) (hd : 47 ≤ d) {M : wS} (hz : RZ M) : Both l D cy ad G d yX9_image cX9_image 1 [.ref (ad 0 0)] yX10_image cX10_image 2 [.ref (ad 30 0)] M := by
  obtain ⟨nb, nt, tc, z, bo, r, h⟩ := hz
  have c1 := h.1
  exact ⟨_, c_X9_image (Nat.le_trans (by decide) hG) (by omega) M c1.1.1 c1.1.2 c1.2.1.1 c1.2.1.2, fun x M1 e => Ctr.imp (o_image hG (by omega) (h.up (by rw [e.1]; exact u_image M nb nt))) (fun x2 M2 g => RZ.go (Prod.ext e.2 e.1) g)⟩
theorem p_back (hG : 56 ≤ G) (hd : 47 ≤ d) {M : wS} (hz : RZ M) : Both l D cy ad G d yX9_back cX9_back 1 [.ref (ad 0 0)] yX10_back cX10_back 2 [.ref (ad 30 0)] M := by
  obtain ⟨nb, nt, tc, z, bo, r, h⟩ := hz
  have c1 := h.1
  obtain ⟨nbk, ntk, k1, k2, k3, k4⟩ := h.kept
  exact ⟨_, c_X9_back (Nat.le_trans (by decide) hG) (by omega) M k1 k2 k3 k4, fun x M1 e => Ctr.imp (o_back hG (by omega) (h.up (by rw [show M1 = (kBack M nbk ntk).2 from congrArg Prod.snd e]; exact u_back M nbk ntk)) k1 k2 k3 k4) (fun x2 M2 g => RZ.go e g)⟩
theorem p_count (hG : 56 ≤ G) (hd : 47 ≤ d) {M : wS} (hz : RZ M) (a : Int32) : Both l D cy ad G d yX9_count cX9_count 2 [.ref (ad 0 0), .int a] yX10_count cX10_count 2 [.ref (ad 30 0), .int a] M := by
  obtain ⟨nb, nt, tc, z, bo, r, h⟩ := hz
  have c1 := h.1
  obtain ⟨hbo, hU⟩ := h.uO
  exact ⟨_, c_X9_count (Nat.le_trans (by decide) hG) (by omega) M hU.2.2 hU.1 a, fun x M1 e => Ctr.imp (o_count hG (by omega) (M0 := M) (M := M1) (show RR M M1 nb nt tc z bo r by rw [e.1]; exact h) a hU) (fun x2 M2 g => RZ.go (Prod.ext e.2 e.1) g)⟩
theorem p_sheet (hG : 56 ≤ G) (hd : 47 ≤ d) {M : wS} (hz : RZ M) (a b c : Int32) : Both l D cy ad G d yX9_sheet cX9_sheet 4 [.ref (ad 0 0), .int a, .int b, .int c] yX10_sheet cX10_sheet 5 [.ref (ad 30 0), .int a, .int b, .int c] M := by
  obtain ⟨nb, nt, tc, z, bo, r, h⟩ := hz
  have c1 := h.1
  have hu : up30 M (kSheet M a b c).2 := u_sheet _ _ _ _
  exact ⟨_, c_X9_sheet (Nat.le_trans (by decide) hG) (by omega) M a b c, fun x M1 e => Ctr.imp (o_sheet hG (by omega) (show RR M M1 nb nt tc z bo r from h.up (by rw [show M1 = (kSheet M a b c).2 from congrArg Prod.snd e]; exact hu)) a b c) (fun x2 M2 g => RZ.go e g)⟩
theorem p_cell (hG : 56 ≤ G) (hd : 47 ≤ d) {M : wS} (hz : RZ M) (a b c : Int32) : Both l D cy ad G d yX9_cell cX9_cell 5 [.ref (ad 0 0), .int a, .int b, .int c] yX10_cell cX10_cell 4 [.ref (ad 30 0), .int a, .int b, .int c] M := by
  obtain ⟨nb, nt, tc, z, bo, r, h⟩ := hz
  have c1 := h.1
  have hu : up30 M (kCell M a b c).2 := u_cell _ _ _ _
  exact ⟨_, c_X9_cell (Nat.le_trans (by decide) hG) (by omega) M (fun k hk => by obtain ⟨n, s1, s2, -⟩ := h.2.2.2.2.2.2.2.1 k hk; rw [s2]; exact nI_le (b := 40) s1 (by decide)) a b c, fun x M1 e => Ctr.imp (o_cell hG (by omega) (show RR M M1 nb nt tc z bo r from h.up (by rw [show M1 = (kCell M a b c).2 from congrArg Prod.snd e]; exact hu)) a b c) (fun x2 M2 g => RZ.go e g)⟩
theorem p_copy (hG : 56 ≤ G) (hd : 47 ≤ d) {M : wS} (hz : RZ M) (a i b j n : Int32) : Both l D cy ad G d yX9_copy cX9_copy 8 [.ref (ad 0 0), .int a, .int i, .int b, .int j, .int n] yX10_copy cX10_copy 9 [.ref (ad 30 0), .int a, .int i, .int b, .int j, .int n] M := by
  obtain ⟨nb, nt, tc, z, bo, r, h⟩ := hz
  have c1 := h.1
  have hu : up30 M (kCopy M a i b j n).2 := u_copy _ _ _ _ _ _
  exact ⟨_, c_X9_copy (Nat.le_trans (by decide) hG) (by omega) M (fun k hk => by obtain ⟨n, s1, s2, -⟩ := h.2.2.2.2.2.2.2.1 k hk; rw [s2]; exact nI_le (b := 40) s1 (by decide)) a i b j n, fun x M1 e => Ctr.imp (o_copy hG (by omega) (show RR M M1 nb nt tc z bo r from h.up (by rw [show M1 = (kCopy M a i b j n).2 from congrArg Prod.snd e]; exact hu)) a i b j n) (fun x2 M2 g => RZ.go e g)⟩
theorem p_things (hG : 56 ≤ G) (hd : 47 ≤ d) {M : wS} (hz : RZ M) (a b c e : Int32) : Both l D cy ad G d yX9_things cX9_things 9 [.ref (ad 0 0), .int a, .int b, .int c, .int e] yX10_things cX10_things 8 [.ref (ad 30 0), .int a, .int b, .int c, .int e] M := by
  obtain ⟨nb, nt, tc, z, bo, r, h⟩ := hz
  have c1 := h.1
  have hu : up30 M (kThings M a b c e).2 := u_things _ _ _ _ _
  exact ⟨_, c_X9_things (Nat.le_trans (by decide) hG) (by omega) M c1.2.1.1 c1.2.1.2 (fun k hk => by obtain ⟨n, s1, s2, -⟩ := h.2.2.2.2.2.2.2.1 k hk; rw [s2]; exact nI_le (b := 40) s1 (by decide)) a b c e, fun x M1 e' => Ctr.imp (o_things hG (by omega) (show RR M M1 nb nt tc z bo r from h.up (by rw [show M1 = (kThings M a b c e).2 from congrArg Prod.snd e']; exact hu)) a b c e) (fun x2 M2 g => RZ.go e' g)⟩
theorem p_taken (hG : 56 ≤ G) (hd : 47 ≤ d) {M : wS} (hz : RZ M) (a b : Int32) : Both l D cy ad G d yX9_taken cX9_taken 3 [.ref (ad 0 0), .int a, .int b] yX10_taken cX10_taken 4 [.ref (ad 30 0), .int a, .int b] M := by
  obtain ⟨nb, nt, tc, z, bo, r, h⟩ := hz
  have c1 := h.1
  exact ⟨_, c_X9_taken (Nat.le_trans (by decide) hG) (by omega) M c1.1.1 c1.1.2 a b, fun x M1 e => Ctr.imp (o_taken hG (by omega) (show RR M M1 nb nt tc z bo r by rw [e.1]; exact h) a b) (fun x2 M2 g => RZ.go (Prod.ext e.2 e.1) g)⟩
end S9a
