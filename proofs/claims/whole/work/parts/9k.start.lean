section S9k
variable {p : Program} {l : Launch} {e : Env} {R : Room} {s : State} {m : MethodId} {args : Array Value} {below : List Frame} {meth : Method} {c : Code} {nL : Nat} {D : va_G} {cy : Nat → ClassId} {A : Nat → Prop} {cells slots : Nat} {Q : State → Prop} {cc : ByteArray} {own : String} {pc : Nat} {lv : List (Nat × Value)} {st : List Value}
theorem Y_callO (C : EX p s m args c cc nL own D cy A) {adS : Nat → Nat → Nat} (hE : wEn D cy adS A s s.heap) {h0 index : Nat} (hl : Cond.methodLink own index yX9_init ∈ lw_good) (hd2 : 61 ≤ R.frames) (hd3 : 2421 ≤ R.locals) (hcells : cells + 61 ≤ R.cells) (hslots : slots + 2327 ≤ R.slots) (hw : (st.map fun v => v.category).sum ≤ 8) (hd : decode cc pc = .ok (.invokespecial index, 3)) (kk : ∀ q, okO adS h0 q → Y p l e R s m args below meth c nL D A Q (cells + 61) (slots + 2327) (pc + 3) lv st (wL cy q.1 30 q.2) []) : Y p l e R s m args below meth c nL D A Q cells slots pc lv (.ref h0 :: st) [] [(h0, e00)] := by
  intro H locs ls h1 h2 h3 h4
  have h1 : va_P D classes [(h0, e00)] H := h1
  have h2 : va_D A [(h0, e00)] := h2
  have hts := C.2.2.2.2.1
  have hF : ∀ q, va_A [(h0, e00)] H.size q → A q := fun q h => by
    rcases h with ⟨k, y, h⟩ | h
    · exact h2.2 k (q, y) h
    · exact C.2.2.2.2.2.2.2 q (Nat.le_trans h3.1 h)
  refine va_callv (va_runI (As := []) (rest := st) (nL := nL) ⟨C.1, C.2.1, C.2.2.1, C.2.2.2.1, hts⟩ (n_X9_init (D := D) (cy := cy) adS h0 H.size) (cwI 0 hts (CX_good qc_X9_init) rfl rfl rfl (hts _ qn_CostsAge) (hts _ hl) (hts _ qi_X9_init) rfl (by decide) ⟨hd2, hd3⟩) ⟨fun a U g mk h => ⟨h.1, h.2.1, h.2.2.1, wEn.moved (s := U) (U := U.calling g mk a) (State.WarmedH.refl U) (fun _ h => h) (fun _ _ _ => rfl) h.2.2.2.1, wAO.moved (u := U) (U := U.calling g mk a) (Vm.Alike.refl U.vm) h.2.2.2.2⟩, fun U hU hW => ⟨rfl, by rw [hU], by rw [hU]; exact h1, wEn.moved hW hF (fun a g1 g2 => by rw [hU]; exact h3.2.1 a g1 g2) hE, wAO.moved hW.alike C.2.2.2.2.2.2.1.2⟩⟩ rfl rfl h4.1 rfl (lv_room hw) hd ⟨hcells, hslots⟩) h3 (fun q _ h => hF q h) hF (fun u t H1 locs1 ht hvm hp hB hz1 hk1 hS1 => ?_)
  obtain ⟨hP1, hD1⟩ := hB
  rw [ht] at hP1
  exact kk u hp H1 locs1 ls (by rw [List.append_nil]; exact hP1) (by rw [List.append_nil]; exact hD1.weaken (fun _ _ _ h => hF _ h)) hS1 h4
theorem Y_callM (C : EX p s m args c cc nL own D cy A) {ad : Nat → Nat → Nat} {M : wS} (hE : wEn D cy ad A s s.heap) {h0 index : Nat} (hl : Cond.methodLink own index yX10_init ∈ lw_good) (hd2 : 21 ≤ R.frames) (hd3 : 820 ≤ R.locals) (hcells : cells + 25 ≤ R.cells) (hslots : slots + 2150 ≤ R.slots) (hw : (st.map fun v => v.category).sum ≤ 8) (hd : decode cc pc = .ok (.invokespecial index, 3)) (kk : ∀ q, okM ad M h0 q → Y p l e R s m args below meth c nL D A Q (cells + 25) (slots + 2150) (pc + 3) lv st (wL cy q.1 56 q.2) []) : Y p l e R s m args below meth c nL D A Q cells slots pc lv (.ref h0 :: st) (wL cy ad 30 M) [(h0, e10)] := by
  intro H locs ls h1 h2 h3 h4
  have h1 : va_P D classes (wsM cy ad M h0) H := h1
  have h2 : va_D A (wsM cy ad M h0) := h2
  have hts := C.2.2.2.2.1
  have hF : ∀ q, va_A (wsM cy ad M h0) H.size q → A q := fun q h => by
    rcases h with ⟨k, y, h⟩ | h
    · exact h2.2 k (q, y) h
    · exact C.2.2.2.2.2.2.2 q (Nat.le_trans h3.1 h)
  refine va_callv (va_runI (As := []) (rest := st) (nL := nL) ⟨C.1, C.2.1, C.2.2.1, C.2.2.2.1, hts⟩ (n_X10_init (D := D) (cy := cy) ad M h0 H.size) (cwI 0 hts (CX_good qc_X10_init) rfl rfl rfl (hts _ qn_CostsAgeModel) (hts _ hl) (hts _ qi_X10_init) rfl (by decide) ⟨hd2, hd3⟩) ⟨fun a U g mk h => ⟨h.1, h.2.1, h.2.2.1, h.2.2.2.1, wEn.moved (s := U) (U := U.calling g mk a) (State.WarmedH.refl U) (fun _ h => h) (fun _ _ _ => rfl) h.2.2.2.2.1, wAO.moved (u := U) (U := U.calling g mk a) (Vm.Alike.refl U.vm) h.2.2.2.2.2⟩, fun U hU hW => ⟨rfl, by rw [hU], by rw [hU]; exact h1, h2.weaken (fun _ _ _ _ => trivial), wEn.moved hW hF (fun a g1 g2 => by rw [hU]; exact h3.2.1 a g1 g2) hE, wAO.moved hW.alike C.2.2.2.2.2.2.1.2⟩⟩ rfl rfl h4.1 rfl (lv_room hw) hd ⟨hcells, hslots⟩) h3 (fun q _ h => hF q h) hF (fun u t H1 locs1 ht hvm hp hB hz1 hk1 hS1 => ?_)
  obtain ⟨hP1, hD1⟩ := hB
  rw [ht] at hP1
  exact kk u hp H1 locs1 ls (by rw [List.append_nil]; exact hP1) (by rw [List.append_nil]; exact hD1.weaken (fun _ _ _ h => hF _ h)) hS1 h4
end S9k
/-- YOUR PART: from the entry, for every script of at most 3072 ints, the law comes to its end with true ('hflags': the launch's flags, for a law that throws: no stack traces) -/
theorem whole_start {p : Program} {e : Env} {s : State} {m : MethodId} {below : List Frame} {meth : Method} {c : Code} (l : Launch) (hflags : l.flags = flags0) {b L : Nat} {xs : Nat → Int32} (hL : L ≤ 3072) (C0 : lw_At p s m meth c b L xs) : W p l e room_1 s m #[Value.ref b] below meth c s.heap [] 0 0 (lw_Z below #[Value.ref b] s) (entryFrame m ([Value.ref b] : List Value).toArray 4) := by
  obtain ⟨hx, hb, hr, hml, hown, hts, hX, hbl, hlocks, hgv⟩ := id C0
  obtain ⟨D, cy, hK⟩ := wK_of hts
  obtain ⟨adS, hE⟩ := wEn_of (cy := cy) hts hgv hK
  have hAO := wAO_of hts
  have hl := lv_entry ([.ref b]) (n := 4) (Nat.le_of_ble_eq_true rfl)
  rw [lg_entry_eq]
  have C : EX p s m #[Value.ref b] c code 4 "CostsAgeLaw" D cy (fun q : Nat => s.heap.size ≤ q) := ⟨hx, hb, hml, hown, fun w hw => hts w (good_tbl hw), hK, ⟨hE.2.1, hAO⟩, fun _ h => h⟩
  suffices hY : Y p l e room_1 s m #[Value.ref b] below meth c 4 D (fun q : Nat => s.heap.size ≤ q) (lw_Z below #[Value.ref b] s) 0 0 0 [(0, .ref b)] [] [] [] from hY s.heap [] _ (fun k q h => by simp at h) ⟨fun i j p q h => by simp at h, fun k q h => by simp at h⟩ va_S.rf hl
  refine Y_new (fs := [.null, .null, .null, .null, .null, .null, .null, .null, .null, .null, .int 0, .int 0, .int 0, .int 0]) C (ci := 9) rfl inX9 tyX9 tyX9_ok qcl_L_7 qin_9 qn_CostsAge (fun j hj => df_9 j hj) (Nat.le_of_ble_eq_true rfl) (Nat.le_of_ble_eq_true rfl) dlaw_0 (fun h0 => ?_)
  refine Y_L (L' := [(h0, e00)]) rfl ?_
  refine Y_dup C dlaw_3 rfl ?_
  refine Y_callO C hE qnl_L_9 (Nat.le_of_ble_eq_true rfl) (Nat.le_of_ble_eq_true rfl) (Nat.le_of_ble_eq_true rfl) (Nat.le_of_ble_eq_true rfl) (Nat.le_of_ble_eq_true rfl) dlaw_4 (fun q1 ok1 => ?_)
  obtain ⟨a1, a2, a3⟩ := ok1
  refine Y_astore_n (lv' := [(0, .ref b), (1, .ref h0)]) C dlaw_7 rfl (by decide) rfl rfl ?_
  refine Y_new (fs := [.int 0, .null, .null, .int 0, .int 0, .null, .int 0, .null, .null, .null, .null, .null, .int 0, .null, .null, .null, .int 0, .int 0, .int 0, .int 0, .int 0, .int 0, .int 0, .int 0, .int 0, .int 0, .int 0, .int 0, .int 0, .int 0, .int 0, .int 0, .int 0, .long 0, .int 0, .int 0, .int 0, .int 0, .int 0, .null, .null, .null, .null, .null, .null, .null, .null, .null, .null, .int 0, .int 0, .int 0, .int 0, .int 0, .int 0, .int 0, .int 0, .null, .null, .null, .null]) C (ci := 10) rfl inX10 tyX10 tyX10_ok qcl_L_10 qin_10 qn_CostsAgeModel (fun j hj => df_10 j hj) (Nat.le_of_ble_eq_true rfl) (Nat.le_of_ble_eq_true rfl) dlaw_8 (fun h1 => ?_)
  refine Y_L (L' := [(h1, e10)]) rfl ?_
  refine Y_dup C dlaw_11 rfl ?_
  refine Y_callM C (ad := q1.1) (M := q1.2) (wEn_ad (fun g hg => a2 g (by omega)) hE) qnl_L_12 (Nat.le_of_ble_eq_true rfl) (Nat.le_of_ble_eq_true rfl) (Nat.le_of_ble_eq_true rfl) (Nat.le_of_ble_eq_true rfl) (Nat.le_of_ble_eq_true rfl) dlaw_12 (fun q2 ok2 => ?_)
  obtain ⟨b1, b2, b3⟩ := ok2
  refine Y_astore_n (lv' := [(0, .ref b), (1, .ref h0), (2, .ref h1)]) C dlaw_15 rfl (by decide) rfl rfl ?_
  refine Y_iconst (v := 0) C dlaw_16 (by decide) ?_
  refine Y_istore_n (lv' := [(0, .ref b), (1, .ref h0), (2, .ref h1), (3, .int 0)]) C dlaw_17 rfl (by decide) rfl rfl ?_
  have e0 : q2.1 0 0 = h0 := by rw [b2 0 (Or.inl (by decide))]; exact a1
  rw [← e0, ← b1]
  refine Y_toV (cy := cy) (ad := q2.1) (G := 56) (M := q2.2) (fun H hH => by rw [List.append_nil] at hH; exact hH) (fun hH => by rw [List.append_nil] at hH; exact hH) (fun hI hA => ?_)
  have CV : CX p s m #[Value.ref b] c code 4 "CostsAgeLaw" D cy q2.1 56 (fun q : Nat => s.heap.size ≤ q) room_1 200 (0 + 1 + 61 + 1 + 25) (0 + 14 + 2327 + 61 + 2150) := ⟨hx, hb, hml, hown, C.2.2.2.2.1, wEn_ad (fun g hg => (b2 g (Or.inr (by omega))).trans (a2 g (by omega))) hE, hI, hA, ⟨(Nat.le_of_ble_eq_true rfl), (Nat.le_of_ble_eq_true rfl), (Nat.le_of_ble_eq_true rfl), (Nat.le_of_ble_eq_true rfl)⟩⟩
  refine law_loop CV (by decide) hX hbl (Nat.not_le.mpr hbl) hL (fun i M => ?_) L 0 q2.2 (by omega) (Nat.zero_le L) ⟨0, 0, 1, 0, 0, 0, RR.first a3 b3⟩
  exact V_iconst (v := 1) CV dlaw_1103 (by decide) (fun H locs ls g1 g2 g3 => va_forget (fun q hq => g2.2.2 q hq) (W.widen (k := 600000) (n := 7302250) (Nat.le_of_ble_eq_true rfl) (Nat.le_of_ble_eq_true rfl) (lw_ret hx hb hr hlocks dlaw_1104)))
