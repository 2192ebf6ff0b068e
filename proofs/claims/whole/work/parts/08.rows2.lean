section V2
variable {p : Program} {l : Launch} {e : Env} {R : Room} {s : State} {m : MethodId} {args : Array Value} {below : List Frame} {meth : Method} {c : Code} {nL : Nat} {D : va_G} {cy : Nat → ClassId} {ad : Nat → Nat → Nat} {G : Nat} {A : Nat → Prop} {cells slots d : Nat} {Q : State → Prop} {cc : ByteArray} {own : String} {pc : Nat} {lv : List (Nat × Value)} {st : List Value} {M : wS}
theorem wg {G N g i : Nat} (hG : N ≤ G) (h : g < N) (hi : i < wN g) : wG G g i := ⟨Nat.lt_of_lt_of_le h hG, hi⟩
theorem lok {lv : List (Nat × Value)} {i : Nat} (h : lv.all (fun q => !(q.1 + 1 == i) || q.2.category == 1) = true) : ∀ q ∈ lv, q.1 + 1 = i → q.2.category = 1 := by
  intro q hq e
  have := List.all_eq_true.mp h q hq
  simpa [e] using this
theorem lokL {lv : List (Nat × Value)} {i : Nat} (h : lv.all (fun q => !(q.1 == i + 1) && (!(q.1 + 1 == i) || q.2.category == 1)) = true) : ∀ q ∈ lv, q.1 ≠ i + 1 ∧ (q.1 + 1 = i → q.2.category = 1) := by
  intro q hq
  have h1 := List.all_eq_true.mp h q hq
  simp only [Bool.and_eq_true, Bool.not_eq_true', beq_eq_false_iff_ne, ne_eq, Bool.or_eq_true, beq_iff_eq] at h1
  exact ⟨h1.1, fun e => h1.2.resolve_left (fun z => z e)⟩
theorem Vs_istore_n (C : CX p s m args c cc nL own D cy ad G A R d cells slots) {n : Fin 4} {i : Nat} {x : Int32} {lv' : List (Nat × Value)} (hd : decode cc pc = .ok (.istore_n n, 1)) (hi : (n : Nat) = i) (hn : i < nL) (hw : lv.all (fun q => !(q.1 + 1 == i) || q.2.category == 1) = true) (hl : lset lv i (.int x) = lv') (k : V p l e R s m args below meth c nL D cy ad G A cells slots Q (pc + 1) lv' st M) : V p l e R s m args below meth c nL D cy ad G A cells slots Q pc lv (.int x :: st) M := V_istore_n C hd hi hn (lok hw) hl k
theorem Vs_istore (C : CX p s m args c cc nL own D cy ad G A R d cells slots) {i : Nat} {x : Int32} {lv' : List (Nat × Value)} (hd : decode cc pc = .ok (.istore i, 2)) (hn : i < nL) (hw : lv.all (fun q => !(q.1 + 1 == i) || q.2.category == 1) = true) (hl : lset lv i (.int x) = lv') (k : V p l e R s m args below meth c nL D cy ad G A cells slots Q (pc + 2) lv' st M) : V p l e R s m args below meth c nL D cy ad G A cells slots Q pc lv (.int x :: st) M := V_istore C hd hn (lok hw) hl k
theorem Vs_astore_n (C : CX p s m args c cc nL own D cy ad G A R d cells slots) {n : Fin 4} {i : Nat} {x : Nat} {lv' : List (Nat × Value)} (hd : decode cc pc = .ok (.astore_n n, 1)) (hi : (n : Nat) = i) (hn : i < nL) (hw : lv.all (fun q => !(q.1 + 1 == i) || q.2.category == 1) = true) (hl : lset lv i (.ref x) = lv') (k : V p l e R s m args below meth c nL D cy ad G A cells slots Q (pc + 1) lv' st M) : V p l e R s m args below meth c nL D cy ad G A cells slots Q pc lv (.ref x :: st) M := V_astore_n C hd hi hn (lok hw) hl k
theorem Vs_astore (C : CX p s m args c cc nL own D cy ad G A R d cells slots) {i : Nat} {x : Nat} {lv' : List (Nat × Value)} (hd : decode cc pc = .ok (.astore i, 2)) (hn : i < nL) (hw : lv.all (fun q => !(q.1 + 1 == i) || q.2.category == 1) = true) (hl : lset lv i (.ref x) = lv') (k : V p l e R s m args below meth c nL D cy ad G A cells slots Q (pc + 2) lv' st M) : V p l e R s m args below meth c nL D cy ad G A cells slots Q pc lv (.ref x :: st) M := V_astore C hd hn (lok hw) hl k
theorem Vs_lstore_n (C : CX p s m args c cc nL own D cy ad G A R d cells slots) {n : Fin 4} {i : Nat} {x : Int64} {lv' : List (Nat × Value)} (hd : decode cc pc = .ok (.lstore_n n, 1)) (hi : (n : Nat) = i) (hn : i + 1 < nL) (hw : lv.all (fun q => !(q.1 == i + 1) && (!(q.1 + 1 == i) || q.2.category == 1)) = true) (hl : lset lv i (.long x) = lv') (k : V p l e R s m args below meth c nL D cy ad G A cells slots Q (pc + 1) lv' st M) : V p l e R s m args below meth c nL D cy ad G A cells slots Q pc lv (.long x :: st) M := V_lstore_n C hd hi hn (lokL hw) hl k
theorem Vs_lstore (C : CX p s m args c cc nL own D cy ad G A R d cells slots) {i : Nat} {x : Int64} {lv' : List (Nat × Value)} (hd : decode cc pc = .ok (.lstore i, 2)) (hn : i + 1 < nL) (hw : lv.all (fun q => !(q.1 == i + 1) && (!(q.1 + 1 == i) || q.2.category == 1)) = true) (hl : lset lv i (.long x) = lv') (k : V p l e R s m args below meth c nL D cy ad G A cells slots Q (pc + 2) lv' st M) : V p l e R s m args below meth c nL D cy ad G A cells slots Q pc lv (.long x :: st) M := V_lstore C hd hn (lokL hw) hl k
theorem Vs_iinc (C : CX p s m args c cc nL own D cy ad G A R d cells slots) {i : Nat} {n : Int} {x v : Int32} (q : Nat) {lv' : List (Nat × Value)} (hd : decode cc pc = .ok (.iinc i n, 3)) (hq : lv[q]? = some (i, .int x)) (hn : i < nL) (hw : lv.all (fun q => !(q.1 + 1 == i) || q.2.category == 1) = true) (hv : x + Int32.ofInt n = v) (hl : lset lv i (.int v) = lv') (k : V p l e R s m args below meth c nL D cy ad G A cells slots Q (pc + 3) lv' st M) : V p l e R s m args below meth c nL D cy ad G A cells slots Q pc lv st M := V_iinc C q hd hq hn (lok hw) hv hl k
theorem V_tbl (C : CX p s m args c cc nL own D cy ad G A R d cells slots) {dflt lo hi : Int} {offs : Array Int} {len : Nat} {x : Int32} (hd : decode cc pc = .ok (.tableswitch dflt lo hi offs, len)) (hs : hi = lo + (offs.size : Int) - 1) (kin : ∀ (j : Nat) (off : Int) (tgt : Nat), offs[j]? = some off → (pc : Int) + off = (tgt : Int) → x.toInt = lo + (j : Int) → 0 ≤ (pc : Int) + off → V p l e R s m args below meth c nL D cy ad G A cells slots Q tgt lv st M) (kout : ∀ tgt : Nat, (pc : Int) + dflt = (tgt : Int) → (x.toInt < lo ∨ hi < x.toInt) → V p l e R s m args below meth c nL D cy ad G A cells slots Q tgt lv st M)
    (hall : offs.all (fun o => decide (0 ≤ (pc : Int) + o)) = true) (hdf : 0 ≤ (pc : Int) + dflt) : V p l e R s m args below meth c nL D cy ad G A cells slots Q pc lv (.int x :: st) M := by
  by_cases h : x.toInt < lo ∨ hi < x.toInt
  · exact V_tblOut C hd h (tgt := ((pc : Int) + dflt).toNat) (by omega) (kout _ (by omega) h)
  · have h0 : ¬ x.toInt < lo := fun q => h (Or.inl q)
    have hh : ¬ hi < x.toInt := fun q => h (Or.inr q)
    have hj : (x.toInt - lo).toNat < offs.size := by omega
    have ho : offs[(x.toInt - lo).toNat]? = some offs[(x.toInt - lo).toNat] := Array.getElem?_eq_getElem hj
    have hp : 0 ≤ (pc : Int) + offs[(x.toInt - lo).toNat] := by
      have := Array.all_eq_true.mp hall (x.toInt - lo).toNat hj
      simpa using this
    exact V_tblIn C hd h0 hh ho (tgt := ((pc : Int) + offs[(x.toInt - lo).toNat]).toNat) (by omega) (kin _ _ _ ho (by omega) (by omega) hp)
/-- a truth as an int -/
def bI (P : Prop) [Decidable P] : Int32 := if P then 1 else 0
theorem bI_0 {P : Prop} [Decidable P] : bI P = 0 ↔ ¬ P := by
  unfold bI
  by_cases h : P
  · simp [h]
  · simp [h]
theorem bI_1 {P : Prop} [Decidable P] : ¬ bI P = 0 ↔ P := by rw [bI_0]; exact Decidable.not_not
theorem bI_t {P : Prop} [Decidable P] (h : P) : 1 = bI P := by simp [bI, h]
theorem bI_f {P : Prop} [Decidable P] (h : ¬ P) : 0 = bI P := by simp [bI, h]
theorem V_mem {M' : wS} (h : M' = M) (k : V p l e R s m args below meth c nL D cy ad G A cells slots Q pc lv st M') : V p l e R s m args below meth c nL D cy ad G A cells slots Q pc lv st M := h ▸ k
theorem V_top {x y : Int32} (h : y = x) (k : V p l e R s m args below meth c nL D cy ad G A cells slots Q pc lv (.int y :: st) M) : V p l e R s m args below meth c nL D cy ad G A cells slots Q pc lv (.int x :: st) M := h ▸ k
theorem V_topl {x y : Int64} (h : y = x) (k : V p l e R s m args below meth c nL D cy ad G A cells slots Q pc lv (.long y :: st) M) : V p l e R s m args below meth c nL D cy ad G A cells slots Q pc lv (.long x :: st) M := h ▸ k
/-- the locals as they are by equal values -/
theorem V_lv {lv' : List (Nat × Value)} (h : lv' = lv) (k : V p l e R s m args below meth c nL D cy ad G A cells slots Q pc lv' st M) : V p l e R s m args below meth c nL D cy ad G A cells slots Q pc lv st M := h ▸ k
end V2
