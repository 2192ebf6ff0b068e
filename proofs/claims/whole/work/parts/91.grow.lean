/-! OBJECTS AND ARRAYS COME: the cells W0 stay as they are, the cells L grow -/
def wAO (s : State) : Prop := va_AO "CostsAge$Buyer" s ∧ va_AO "CostsAge$Ware" s ∧ va_AO "CostsAge$Text" s ∧ va_AO "CostsAge$Sheet" s
theorem wAO.moved {u U : State} (hvm : u.vm.Alike U.vm) (h : wAO u) : wAO U := ⟨h.1.moved hvm, h.2.1.moved hvm, h.2.2.1.moved hvm, h.2.2.2.moved hvm⟩
theorem wNest.moved {s U : State} (hW : s.WarmedH U.vm) (h : wNest s) : wNest U := ⟨fun a i b n d g w => va_Nw.warmF hW (h.1 a i b n d g w), fun a i x g w => va_Nw.warmM hW (h.2 a i x g w)⟩
def EX (p : Program) (s : State) (m : MethodId) (args : Array Value) (c : Code) (cc : ByteArray) (nL : Nat) (own : String) (D : va_G) (cy : Nat → ClassId) (A : Nat → Prop) : Prop :=
  p.tables.exec = Jvm.exec ∧ c.code = cc ∧ c.maxLocals = nL ∧ s.vm.findClass own = some m.cls ∧ (∀ w ∈ lw_good, w.before args s = true) ∧ va_K D classes (wTys cy) s ∧ (wNest s ∧ wAO s) ∧ (∀ q, s.heap.size ≤ q → A q)
def Y (p : Program) (l : Launch) (e : Env) (R : Room) (s : State) (m : MethodId) (args : Array Value) (below : List Frame) (meth : Method) (c : Code) (nL : Nat) (D : va_G) (A : Nat → Prop) (Q : State → Prop) (cells slots : Nat) (pc : Nat) (lv : List (Nat × Value)) (st : List Value) (W0 L : va_W) : Prop :=
  ∀ (H : Heap) (locs : List Loc) (ls : Array Slot), va_P D classes (W0 ++ L) H → va_D A (W0 ++ L) → va_S A s.heap H locs → lv_has ls nL lv → W p l e R s m args below meth c H locs cells slots Q (F0 m pc ls st)
theorem yA {W0 L : va_W} {k : Nat} {x : Nat × va_E} (h : L[k]? = some x) : (W0 ++ L)[W0.length + k]? = some x := by
  rw [List.getElem?_append_right (by omega), Nat.add_sub_cancel_left]
  exact h
theorem yS (W0 L : va_W) (k : Nat) (x : Nat × va_E) : (W0 ++ L).set (W0.length + k) x = W0 ++ L.set k x := by
  rw [List.set_append_right _ _ (by omega), Nat.add_sub_cancel_left]
theorem y_join {A0 : Nat → Prop} {D : va_G} {cl : List vw_C} {X w1 : va_W} {h0 : Nat} {e0 : va_E} {H H1 : Heap} (hP : va_P D cl (X ++ [(h0, e0)]) H) (hD : va_D A0 (X ++ [(h0, e0)])) (hk : ∀ q : Nat, q < H.size → ¬ va_A [(h0, e0)] H.size q → H1[q]? = H[q]?) (hF : ∀ q, va_A [(h0, e0)] H.size q → A0 q) (hP1 : va_P D cl w1 H1) (hD1 : va_D (va_A [(h0, e0)] H.size) w1) : va_P D cl (X ++ w1) H1 ∧ va_D A0 (X ++ w1) := by
  have hl : ∀ (k : Nat) (q : Nat × va_E), X[k]? = some q → (X ++ [(h0, e0)])[k]? = some q := fun k q h => by
    rw [List.getElem?_append_left (List.getElem?_eq_some_iff.mp h).1]
    exact h
  have h2 : (X ++ [(h0, e0)])[X.length]? = some (h0, e0) := by
    rw [List.getElem?_append_right (Nat.le_refl _), Nat.sub_self]
    rfl
  have ne : ∀ (k : Nat) (q : Nat × va_E), X[k]? = some q → q.1 ≠ h0 := fun k q h y => by
    have h3 := (List.getElem?_eq_some_iff.mp h).1
    have := hD.1 k X.length q (h0, e0) (hl k q h) h2 y
    omega
  have inA : ∀ q, va_A [(h0, e0)] H.size q → q = h0 ∨ H.size ≤ q := fun q h => by
    rcases h with ⟨k, y, h⟩ | h
    · have := List.mem_of_getElem? h
      rw [List.mem_singleton] at this
      exact Or.inl (Prod.mk.inj this).1
    · exact Or.inr h
  have lt : ∀ (k : Nat) (q : Nat × va_E), X[k]? = some q → q.1 < H.size := fun k q h => (hP k q (hl k q h)).lt
  refine ⟨va_P.app (fun k q h => (hP k q (hl k q h)).kept (hk q.1 (lt k q h) (fun y => ?_))) hP1, va_D.app ⟨fun i j p q hi hj y => hD.1 i j p q (hl i p hi) (hl j q hj) y, fun k q h => hD.2 k q (hl k q h)⟩ (hD1.weaken (fun _ _ _ h => hF _ h)) (fun i j p q hi hj y => ?_)⟩
  · rcases inA _ y with z | z
    · exact ne k q h z
    · exact absurd (lt k q h) (Nat.not_lt.mpr z)
  · rcases inA _ (hD1.2 j q hj) with z | z
    · exact ne i p hi (y.trans z)
    · have := lt i p hi
      omega
theorem cy_int {D : va_G} {cy : Nat → ClassId} {cA : ClassId} {s : State} (h : va_K D classes (wTys cy ++ [(cA, .int)]) s) : cA = cy 0 := Option.some.inj ((h.2 6 _ rfl).2.symm.trans (h.2 0 (cy 0, .int) rfl).2)
theorem cy_bool {D : va_G} {cy : Nat → ClassId} {cA : ClassId} {s : State} (h : va_K D classes (wTys cy ++ [(cA, .boolean)]) s) : cA = cy 1 := Option.some.inj ((h.2 6 _ rfl).2.symm.trans (h.2 1 (cy 1, .boolean) rfl).2)
theorem cy_obj {D : va_G} {cy : Nat → ClassId} {cA : ClassId} {s : State} {Cn : String} (t : Nat) (ht : (wTys cy)[t]? = some (cy t, .object Cn)) (h : va_K D classes (wTys cy ++ [(cA, .object Cn)]) s) : cA = cy t := by
  have h2 : (wTys cy ++ [(cA, FieldType.object Cn)])[t]? = some (cy t, .object Cn) := by
    rw [List.getElem?_append_left (List.getElem?_eq_some_iff.mp ht).1]
    exact ht
  obtain ⟨kA, comp, -, -, -, a4⟩ := (h.2 6 _ rfl).2
  obtain ⟨kA', comp', -, -, -, b4⟩ := (h.2 t _ h2).2
  exact Option.some.inj (a4.symm.trans b4)
theorem CX_good {y : MethodName} {cy2 : ByteArray} {nL2 : Nat} {ret2 : Option FieldType} (hc : Cond.code y cy2 nL2 ret2 ∈ lw_good) : GoodIn lw_good (.code y cy2 nL2 ret2 :: lw_good) := by
  have h0 : ∀ w ∈ lw_good, w ∈ lw_good ∧ ((w.onTables && w.keeps) = true ∨ ∃ ty, w = .arrayClass ty) := fun w hw => ⟨hw, good_of_word (List.mem_filter.mp hw).2⟩
  intro w hw
  rcases List.mem_cons.mp hw with rfl | hw
  · exact h0 _ hc
  · exact h0 w hw
section YR
variable {p : Program} {l : Launch} {e : Env} {R : Room} {s : State} {m : MethodId} {args : Array Value} {below : List Frame} {meth : Method} {c : Code} {nL : Nat} {D : va_G} {cy : Nat → ClassId} {A : Nat → Prop} {cells slots : Nat} {Q : State → Prop} {cc : ByteArray} {own : String} {pc : Nat} {lv : List (Nat × Value)} {st : List Value} {W0 L : va_W}
theorem Y_L {L' : va_W} (h : L' = L) (k : Y p l e R s m args below meth c nL D A Q cells slots pc lv st W0 L') : Y p l e R s m args below meth c nL D A Q cells slots pc lv st W0 L := h ▸ k
theorem Y_split {L' : va_W} {x : Nat × va_E} (h : L' ++ [x] = L) (k : Y p l e R s m args below meth c nL D A Q cells slots pc lv st W0 (L' ++ [x])) : Y p l e R s m args below meth c nL D A Q cells slots pc lv st W0 L := h ▸ k
theorem Y_iconst (C : EX p s m args c cc nL own D cy A) {n : Int} {v : Int32} (hd : decode cc pc = .ok (.iconst n, 1)) (hv : Int32.ofInt n = v) (k : Y p l e R s m args below meth c nL D A Q cells slots (pc + 1) lv (.int v :: st) W0 L) : Y p l e R s m args below meth c nL D A Q cells slots pc lv st W0 L :=
  fun H locs ls h1 h2 h3 h4 => lv_iconst C.1 C.2.1 hd hv (k H locs ls h1 h2 h3 h4)
theorem Y_bipush (C : EX p s m args c cc nL own D cy A) {n : Int} {v : Int32} (hd : decode cc pc = .ok (.bipush n, 2)) (hv : (Int8.ofInt n).toInt32 = v) (k : Y p l e R s m args below meth c nL D A Q cells slots (pc + 2) lv (.int v :: st) W0 L) : Y p l e R s m args below meth c nL D A Q cells slots pc lv st W0 L :=
  fun H locs ls h1 h2 h3 h4 => lv_bipush C.1 C.2.1 hd hv (k H locs ls h1 h2 h3 h4)
theorem Y_sipush (C : EX p s m args c cc nL own D cy A) {n : Int} {v : Int32} (hd : decode cc pc = .ok (.sipush n, 3)) (hv : (Int16.ofInt n).toInt32 = v) (k : Y p l e R s m args below meth c nL D A Q cells slots (pc + 3) lv (.int v :: st) W0 L) : Y p l e R s m args below meth c nL D A Q cells slots pc lv st W0 L :=
  fun H locs ls h1 h2 h3 h4 => lv_sipush C.1 C.2.1 hd hv (k H locs ls h1 h2 h3 h4)
theorem Y_aload_n (C : EX p s m args c cc nL own D cy A) {n : Fin 4} {i x : Nat} (q : Nat) (hd : decode cc pc = .ok (.aload_n n, 1)) (hi : (n : Nat) = i) (hq : lv[q]? = some (i, .ref x)) (k : Y p l e R s m args below meth c nL D A Q cells slots (pc + 1) lv (.ref x :: st) W0 L) : Y p l e R s m args below meth c nL D A Q cells slots pc lv st W0 L :=
  fun H locs ls h1 h2 h3 h4 => lv_aload_n C.1 C.2.1 hd hi (lv_at h4 q hq) (k H locs ls h1 h2 h3 h4)
theorem Y_iload_n (C : EX p s m args c cc nL own D cy A) {n : Fin 4} {i : Nat} {x : Int32} (q : Nat) (hd : decode cc pc = .ok (.iload_n n, 1)) (hi : (n : Nat) = i) (hq : lv[q]? = some (i, .int x)) (k : Y p l e R s m args below meth c nL D A Q cells slots (pc + 1) lv (.int x :: st) W0 L) : Y p l e R s m args below meth c nL D A Q cells slots pc lv st W0 L :=
  fun H locs ls h1 h2 h3 h4 => lv_iload_n C.1 C.2.1 hd hi (lv_at h4 q hq) (k H locs ls h1 h2 h3 h4)
theorem Y_dup (C : EX p s m args c cc nL own D cy A) {x : Value} (hd : decode cc pc = .ok (.dup, 1)) (hc : x.category = 1) (k : Y p l e R s m args below meth c nL D A Q cells slots (pc + 1) lv (x :: x :: st) W0 L) : Y p l e R s m args below meth c nL D A Q cells slots pc lv (x :: st) W0 L :=
  fun H locs ls h1 h2 h3 h4 => lv_dup C.1 C.2.1 hd hc (k H locs ls h1 h2 h3 h4)
theorem Y_goto (C : EX p s m args c cc nL own D cy A) {off : Int} {tgt : Nat} (hd : decode cc pc = .ok (.goto off, 3)) (ht : (pc : Int) + off = (tgt : Int)) (k : Y p l e R s m args below meth c nL D A Q cells slots tgt lv st W0 L) : Y p l e R s m args below meth c nL D A Q cells slots pc lv st W0 L :=
  fun H locs ls h1 h2 h3 h4 => lv_goto C.1 C.2.1 hd ht (k H locs ls h1 h2 h3 h4)
theorem Y_icmp_ge (C : EX p s m args c cc nL own D cy A) {x y : Int32} {off : Int} {tgt : Nat} (hd : decode cc pc = .ok (.if_icmp .ge off, 3)) (ht : (pc : Int) + off = (tgt : Int)) (kt : y ≤ x → Y p l e R s m args below meth c nL D A Q cells slots tgt lv st W0 L) (kf : ¬ y ≤ x → Y p l e R s m args below meth c nL D A Q cells slots (pc + 3) lv st W0 L) : Y p l e R s m args below meth c nL D A Q cells slots pc lv (.int y :: .int x :: st) W0 L :=
  fun H locs ls h1 h2 h3 h4 => lv_icmp_ge C.1 C.2.1 hd ht (fun h => kt h H locs ls h1 h2 h3 h4) (fun h => kf h H locs ls h1 h2 h3 h4)
theorem Y_istore_n (C : EX p s m args c cc nL own D cy A) {n : Fin 4} {i : Nat} {x : Int32} {lv' : List (Nat × Value)} (hd : decode cc pc = .ok (.istore_n n, 1)) (hi : (n : Nat) = i) (hn : i < nL) (hw : lv.all (fun q => !(q.1 + 1 == i) || q.2.category == 1) = true) (hl : lset lv i (.int x) = lv') (k : Y p l e R s m args below meth c nL D A Q cells slots (pc + 1) lv' st W0 L) : Y p l e R s m args below meth c nL D A Q cells slots pc lv (.int x :: st) W0 L :=
  fun H locs ls h1 h2 h3 h4 => lv_istore_n C.1 C.2.1 hd hi h4 hn rfl (fun ls' h5 => k H locs ls' h1 h2 h3 (hl ▸ lset_has (lok hw) h5))
theorem Y_astore_n (C : EX p s m args c cc nL own D cy A) {n : Fin 4} {i x : Nat} {lv' : List (Nat × Value)} (hd : decode cc pc = .ok (.astore_n n, 1)) (hi : (n : Nat) = i) (hn : i < nL) (hw : lv.all (fun q => !(q.1 + 1 == i) || q.2.category == 1) = true) (hl : lset lv i (.ref x) = lv') (k : Y p l e R s m args below meth c nL D A Q cells slots (pc + 1) lv' st W0 L) : Y p l e R s m args below meth c nL D A Q cells slots pc lv (.ref x :: st) W0 L :=
  fun H locs ls h1 h2 h3 h4 => lv_astore_n C.1 C.2.1 hd hi h4 hn rfl (fun ls' h5 => k H locs ls' h1 h2 h3 (hl ▸ lset_has (lok hw) h5))
theorem Y_iinc (C : EX p s m args c cc nL own D cy A) {i : Nat} {n : Int} {x v : Int32} (q : Nat) {lv' : List (Nat × Value)} (hd : decode cc pc = .ok (.iinc i n, 3)) (hq : lv[q]? = some (i, .int x)) (hn : i < nL) (hw : lv.all (fun q => !(q.1 + 1 == i) || q.2.category == 1) = true) (hv : x + Int32.ofInt n = v) (hl : lset lv i (.int v) = lv') (k : Y p l e R s m args below meth c nL D A Q cells slots (pc + 3) lv' st W0 L) : Y p l e R s m args below meth c nL D A Q cells slots pc lv st W0 L :=
  fun H locs ls h1 h2 h3 h4 => lv_iinc C.1 C.2.1 hd h4 hq hv hn rfl (fun ls' h5 => k H locs ls' h1 h2 h3 (hl ▸ lset_has (lok hw) h5))
theorem Y_obj (C : EX p s m args c cc nL own D cy A) {index a : Nat} (hl : Cond.methodLink own index Lib.objectInit ∈ lw_good) (hi : Cond.instanceMethod Lib.objectInit ∈ lw_good) (hco : Cond.code Lib.objectInit ⟨#[0xb1]⟩ 1 none ∈ lw_good) (hf : 1 ≤ R.frames) (hL : 20 ≤ R.locals) (hw : (st.map fun v => v.category).sum ≤ 8) (hd : decode cc pc = .ok (.invokespecial index, 3)) (k : Y p l e R s m args below meth c nL D A Q cells slots (pc + 3) lv st W0 L) : Y p l e R s m args below meth c nL D A Q cells slots pc lv (.ref a :: st) W0 L :=
  fun H locs ls h1 h2 h3 h4 => W.objInit C.1 C.2.1 C.2.2.2.1 (C.2.2.2.2.1 _ hl) (C.2.2.2.2.1 _ hi) (C.2.2.2.2.1 _ hco) rfl (h4.1.trans C.2.2.1.symm) rfl hd hf (Nat.le_trans (Nat.add_le_add_right (lv_room (m := m) (pc := pc) (ls := ls) (rest := .ref a :: st) hw) 12) hL) (k H locs ls h1 h2 h3 h4)
theorem Y_new (C : EX p s m args c cc nL own D cy A) {index ci N : Nat} {Cn : String} {T : u_T} {fs : List Value} (hc : classes[ci]? = some (Cn, T, N)) (hin : ∀ w ∈ u_ws Cn T N, w ∈ lw_good) (ty : Nat → FieldType) (hty : ∀ k, k < N → parseFieldDescriptor (T k).2.2.1 = some (ty k)) (hcl : Cond.classLink own index Cn ∈ lw_good) (hinst : Cond.instantiable Cn N ∈ lw_good) (hini : Cond.initialized Cn ∈ lw_good) (hfs : ∀ j, j < N → defaultValue (ty j) = vp_V fs j) (hcells : cells + 1 ≤ R.cells) (hslots : slots + N ≤ R.slots) (hd : decode cc pc = .ok (.new index, 3)) (k : ∀ q : Nat, Y p l e R s m args below meth c nL D A Q (cells + 1) (slots + N) (pc + 3) lv (.ref q :: st) W0 (L ++ [(q, .inr (ci, fs))])) : Y p l e R s m args below meth c nL D A Q cells slots pc lv st W0 L :=
  fun H locs ls h1 h2 h3 h4 => va_new C.1 C.2.1 C.2.2.2.2.1 hin ty hty C.2.2.2.1 (C.2.2.2.2.1 _ hcl) (C.2.2.2.2.1 _ hinst) (C.2.2.2.2.1 _ hini) C.2.2.2.2.2.1 h1 h2 h3 C.2.2.2.2.2.2.2 hc hfs hcells hslots hd (fun q H1 g1 g2 g3 => k q H1 locs ls (by rw [← List.append_assoc]; exact g1) (by rw [← List.append_assoc]; exact g2) g3 h4)
theorem Y_newa (C : EX p s m args c cc nL own D cy A) {n : Int32} (N : Nat) (hx : n = nI N) (hN : N < 10000) (harr : Cond.arrayClass .int ∈ lw_good) (hcells : cells + 1 ≤ R.cells) (hslots : slots + N ≤ R.slots) (hd : decode cc pc = .ok (.newarray .int, 2)) (k : ∀ q : Nat, Y p l e R s m args below meth c nL D A Q (cells + 1) (slots + N) (pc + 2) lv (.ref q :: st) W0 (L ++ [(q, .inl (cy 0, N, .inl (fun _ => 0)))])) : Y p l e R s m args below meth c nL D A Q cells slots pc lv (.int n :: st) W0 L := by
  intro H locs ls h1 h2 h3 h4
  subst hx
  refine va_newa (atype := .int) (a0 := (N, .inl (fun _ => 0))) (N' := N) C.1 C.2.1 (C.2.2.2.2.1 _ harr) rfl C.2.2.2.2.2.1 h1 h2 h3 C.2.2.2.2.2.2.2 (fun _ => rfl) (Int32.not_lt.mpr (nI_pos' (by omega))) (nI_clamp (by omega)) ?_ hcells hslots hd (fun q cA H1 g0 g1 g2 g3 => ?_)
  · show N * 4 ≤ _
    omega
  · rw [cy_int g0] at g1 g2
    exact k q H1 locs ls (by rw [← List.append_assoc]; exact g1) (by rw [← List.append_assoc]; exact g2) g3 h4
theorem Y_newz (C : EX p s m args c cc nL own D cy A) {n : Int32} (N : Nat) (hx : n = nI N) (hN : N < 10000) (harr : Cond.arrayClass .boolean ∈ lw_good) (hcells : cells + 1 ≤ R.cells) (hslots : slots + N ≤ R.slots) (hd : decode cc pc = .ok (.newarray .boolean, 2)) (k : ∀ q : Nat, Y p l e R s m args below meth c nL D A Q (cells + 1) (slots + N) (pc + 2) lv (.ref q :: st) W0 (L ++ [(q, .inl (cy 1, N, .inl (fun _ => 0)))])) : Y p l e R s m args below meth c nL D A Q cells slots pc lv (.int n :: st) W0 L := by
  intro H locs ls h1 h2 h3 h4
  subst hx
  refine va_newa (atype := .boolean) (a0 := (N, .inl (fun _ => 0))) (N' := N) C.1 C.2.1 (C.2.2.2.2.1 _ harr) rfl C.2.2.2.2.2.1 h1 h2 h3 C.2.2.2.2.2.2.2 (fun _ => rfl) (Int32.not_lt.mpr (nI_pos' (by omega))) (nI_clamp (by omega)) ?_ hcells hslots hd (fun q cA H1 g0 g1 g2 g3 => ?_)
  · show N * 1 ≤ _
    omega
  · rw [cy_bool g0] at g1 g2
    exact k q H1 locs ls (by rw [← List.append_assoc]; exact g1) (by rw [← List.append_assoc]; exact g2) g3 h4
theorem Y_newq (C : EX p s m args c cc nL own D cy A) {n : Int32} {index : Nat} {Cn : String} (N t : Nat) (hx : n = nI N) (hN : N < 10000) (ht : (wTys cy)[t]? = some (cy t, .object Cn)) (hcl : Cond.classLink own index Cn ∈ lw_good) (ho : va_AO Cn s) (hcells : cells + 1 ≤ R.cells) (hslots : slots + N ≤ R.slots) (hd : decode cc pc = .ok (.anewarray index, 3)) (k : ∀ q : Nat, Y p l e R s m args below meth c nL D A Q (cells + 1) (slots + N) (pc + 3) lv (.ref q :: st) W0 (L ++ [(q, .inl (cy t, N, .inr (.inr (.inr (.inr (fun _ => none))))))])) : Y p l e R s m args below meth c nL D A Q cells slots pc lv (.int n :: st) W0 L := by
  intro H locs ls h1 h2 h3 h4
  subst hx
  refine va_newq (N' := N) C.1 C.2.1 C.2.2.2.1 (C.2.2.2.2.1 _ hcl) ho C.2.2.2.2.2.1 h1 h2 h3 C.2.2.2.2.2.2.2 (Int32.not_lt.mpr (nI_pos' (by omega))) (nI_clamp (by omega)) (by omega) hcells hslots hd (fun q cA H1 g0 g1 g2 g3 => ?_)
  rw [cy_obj t ht g0] at g1 g2
  exact k q H1 locs ls (by rw [← List.append_assoc]; exact g1) (by rw [← List.append_assoc]; exact g2) g3 h4
theorem Y_get (C : EX p s m args c cc nL own D cy A) {index ci N a k : Nat} {T : u_T} {fs : List Value} {v : Value} (q0 : Nat) (he : L[q0]? = some (a, .inr (ci, fs))) (hc : classes[ci]? = some (own, T, N)) (hk : k < N) (hin : ∀ w ∈ u_ws own T N, w ∈ lw_good) (hT : (T k).1 = own) (hl : Cond.fieldLink own index own (T k).2.1 (T k).2.2.1 ∈ lw_good) (hv : fs[k]? = some v) (hd : decode cc pc = .ok (.getfield index, 3)) (kk : Y p l e R s m args below meth c nL D A Q cells slots (pc + 3) lv (v :: st) W0 L) : Y p l e R s m args below meth c nL D A Q cells slots pc lv (.ref a :: st) W0 L :=
  fun H locs ls h1 h2 h3 h4 => va_get C.1 C.2.1 C.2.2.2.2.1 hin C.2.2.2.1 C.2.2.2.2.2.1 h1 (W0.length + q0) (yA he) hc k hk (C.2.2.2.2.1 _ hl) (by rw [hT]; exact fun _ h => h) hv hd (kk H locs ls h1 h2 h3 h4)
theorem Y_putF (C : EX p s m args c cc nL own D cy A) (hin2 : meth.name = "<init>") {index ci N a k : Nat} {T : u_T} {fs : List Value} {v : Value} {ty : FieldType} (q0 : Nat) (he : L[q0]? = some (a, .inr (ci, fs))) (hc : classes[ci]? = some (own, T, N)) (hk : k < N) (hin : ∀ w ∈ u_ws own T N, w ∈ lw_good) (hT : (T k).1 = own) (ty0 : Nat → FieldType) (hty : ∀ k, k < N → parseFieldDescriptor (T k).2.2.1 = some (ty0 k)) (hnm : ∀ a, a < N → ∀ b, b < N → a ≠ b → (T a).2.1 ≠ (T b).2.1) (hfin : (T k).2.2.2 = true) (hdt : parseFieldDescriptor (T k).2.2.1 = some ty) (hn : narrow ty v = v) (hfit : fits ty v = true) (hlen : k < fs.length) (hl : Cond.fieldLink own index own (T k).2.1 (T k).2.2.1 ∈ lw_good) (hd : decode cc pc = .ok (.putfield index, 3)) (kk : Y p l e R s m args below meth c nL D A Q cells slots (pc + 3) lv st W0 (L.set q0 (a, .inr (ci, fs.set k v)))) : Y p l e R s m args below meth c nL D A Q cells slots pc lv (v :: .ref a :: st) W0 L := by
  intro H locs ls h1 h2 h3 h4
  refine va_putF C.1 C.2.1 C.2.2.2.2.1 hin ty0 hty hnm C.2.2.2.1 C.2.2.2.2.2.1 h1 h2 h3 (W0.length + q0) (yA he) hc k hk (C.2.2.2.2.1 _ hl) (by rw [hT]; exact fun _ h => h) hfin hin2 hT hdt hn hfit hlen hd (fun H1 locs1 g1 g2 g3 => ?_)
  rw [yS] at g1 g2
  exact kk H1 locs1 ls g1 g2 g3 h4
theorem Y_put (C : EX p s m args c cc nL own D cy A) {index ci N a k : Nat} {T : u_T} {fs : List Value} {v : Value} {ty : FieldType} (q0 : Nat) (he : L[q0]? = some (a, .inr (ci, fs))) (hc : classes[ci]? = some (own, T, N)) (hk : k < N) (hin : ∀ w ∈ u_ws own T N, w ∈ lw_good) (hT : (T k).1 = own) (ty0 : Nat → FieldType) (hty : ∀ k, k < N → parseFieldDescriptor (T k).2.2.1 = some (ty0 k)) (hnm : ∀ a, a < N → ∀ b, b < N → a ≠ b → (T a).2.1 ≠ (T b).2.1) (hfin : (T k).2.2.2 = false) (hdt : parseFieldDescriptor (T k).2.2.1 = some ty) (hn : narrow ty v = v) (hfit : fits ty v = true) (hlen : k < fs.length) (hl : Cond.fieldLink own index own (T k).2.1 (T k).2.2.1 ∈ lw_good) (hd : decode cc pc = .ok (.putfield index, 3)) (kk : Y p l e R s m args below meth c nL D A Q cells slots (pc + 3) lv st W0 (L.set q0 (a, .inr (ci, fs.set k v)))) : Y p l e R s m args below meth c nL D A Q cells slots pc lv (v :: .ref a :: st) W0 L := by
  intro H locs ls h1 h2 h3 h4
  refine va_put C.1 C.2.1 C.2.2.2.2.1 hin ty0 hty hnm C.2.2.2.1 C.2.2.2.2.2.1 h1 h2 h3 (W0.length + q0) (yA he) hc k hk (C.2.2.2.2.1 _ hl) (by rw [hT]; exact fun _ h => h) hfin hdt hn hfit hlen hd (fun H1 locs1 g1 g2 g3 => ?_)
  rw [yS] at g1 g2
  exact kk H1 locs1 ls g1 g2 g3 h4
theorem Y_aast (C : EX p s m args c cc nL own D cy A) {a n v ci t : Nat} {r : vw_C} {vs : List Value} {f : Nat → Option Nat} {x : Int32} (j q0 qk : Nat) (hx : x = nI j) (hj : j < n) (hn : n < 10000) (ha : L[q0]? = some (a, .inl (cy t, n, .inr (.inr (.inr (.inr f)))))) (ht : (wTys cy)[t]? = some (cy t, .object r.1)) (hv : L[qk]? = some (v, .inr (ci, vs))) (hc : classes[ci]? = some r) (hd : decode cc pc = .ok (.aastore, 1)) (kk : Y p l e R s m args below meth c nL D A Q cells slots (pc + 1) lv st W0 (L.set q0 (a, .inl (cy t, n, .inr (.inr (.inr (.inr (va_up f j (some v))))))))) : Y p l e R s m args below meth c nL D A Q cells slots pc lv (.ref v :: .int x :: .ref a :: st) W0 L := by
  intro H locs ls h1 h2 h3 h4
  subst hx
  refine va_astq C.1 C.2.1 C.2.2.2.2.2.1 h1 h2 h3 (W0.length + q0) t (W0.length + qk) ci (yA ha) ht (yA hv) hc (vp_in_nI hj (by omega)) hd (fun H1 locs1 g1 g2 g3 => ?_)
  rw [yS, nI_clamp (by omega)] at g1 g2
  exact kk H1 locs1 ls g1 g2 g3 h4
/-- the contract of a constructor that makes rows -/
def CtrN (l : Launch) (D : va_G) (cy : Nat → ClassId) (d mc ms : Nat) (y : MethodName) (cc : ByteArray) (nL : Nat) (h0 : Nat) (e0 : va_E) (w1 : (Nat → Nat) → va_W) : Prop :=
  ∀ sz, Met l y (.code y cc nL none :: lw_good) { frames := d, cells := mc, slots := ms, locals := 40 * d } (va_Pc [.ref h0] (fun U => U.heap.size = sz ∧ va_P D classes [(h0, e0)] U.heap ∧ va_K D classes (wTys cy) U ∧ wNest U ∧ wAO U)) (va_Qv (fun _ : Nat → Nat => True) (fun u t => va_P D classes (w1 u) t.heap ∧ va_D (va_A [(h0, e0)] sz) (w1 u)) (va_A [(h0, e0)] sz)) mc ms (va_A [(h0, e0)] sz)
theorem CtrN.of {y : MethodName} {h0 d mc ms : Nat} {e0 : va_E} {w1 : (Nat → Nat) → va_W} (hy : plainName y.cls = true) (hnL : 1 ≤ nL)
    (body : ∀ (p : Program) (e : Env) (s : State) (m : MethodId) (args : Array Value) (below : List Frame) (meth : Method) (c : Code), EX p s m args c cc nL y.cls D cy (va_A [(h0, e0)] s.heap.size) → meth.sig.returnType = none → meth.locks = false → meth.name = y.name →
      Y p l e { frames := d, cells := mc, slots := ms, locals := 40 * d } s m args below meth c nL D (va_A [(h0, e0)] s.heap.size) (MQ below (va_Qv (fun _ : Nat → Nat => True) (fun u t => va_P D classes (w1 u) t.heap ∧ va_D (va_A [(h0, e0)] s.heap.size) (w1 u)) (va_A [(h0, e0)] s.heap.size)) args s mc ms (va_A [(h0, e0)] s.heap.size)) 0 0 0 [(0, .ref h0)] [] [] [(h0, e0)]) : CtrN l D cy d mc ms y cc nL h0 e0 w1 := by
  intro sz
  refine Met.ofW (cc := cc) (maxL := nL) (ret := none) hy rfl ?_
  intro p e s m args below meth c s₁ B hml hv
  obtain ⟨rfl, hsz, hP, hK, hN, hO⟩ := hv
  subst hsz
  have hts := atoms_spec (ws := Cond.code y cc nL none :: lw_good) B.pre
  have hl := lv_entry [.ref h0] (n := nL) hnL
  rw [lg_entry_eq]
  refine body p e s m _ below meth c ⟨B.exec, B.bytes, hml, findClass_of_methodNamed B.named, fun w hw => hts w (List.mem_cons_of_mem _ hw), hK, ⟨hN, hO⟩, fun _ h => Or.inr h⟩ B.returns B.notSynchronized (name_of_methodNamed B.named B.method).1 s.heap [] _ hP ⟨fun i j p q hi hj _ => ?_, fun k q hk => va_A.in hk⟩ va_S.rf hl
  have h1 := (List.getElem?_eq_some_iff.mp hi).1
  have h2 := (List.getElem?_eq_some_iff.mp hj).1
  have h3 : ([] ++ [(h0, e0)] : va_W).length = 1 := rfl
  omega
theorem Y_vret {h0 mc ms : Nat} {e0 : va_E} {w1 : (Nat → Nat) → va_W} (C : EX p s m args c cc nL own D cy (va_A [(h0, e0)] s.heap.size)) (hr : meth.sig.returnType = none) (hk : meth.locks = false) (u : Nat → Nat) (hu : w1 u = L) (hd : decode cc pc = .ok (.return_, 1)) : Y p l e R s m args below meth c nL D (va_A [(h0, e0)] s.heap.size) (MQ below (va_Qv (fun _ : Nat → Nat => True) (fun u t => va_P D classes (w1 u) t.heap ∧ va_D (va_A [(h0, e0)] s.heap.size) (w1 u)) (va_A [(h0, e0)] s.heap.size)) args s mc ms (va_A [(h0, e0)] s.heap.size)) mc ms pc lv [] [] L :=
  fun H locs ls h1 h2 h3 h4 => W.vret C.1 C.2.1 hr (fun t ht _ => ⟨⟨u, rfl, trivial, by rw [ht, hu]; exact h1, by rw [hu]; exact h2⟩, h3.F ht⟩) h3.2.2 hd hk
theorem Y_callN (C : EX p s m args c cc nL own D cy A) {y : MethodName} {cc2 : ByteArray} {h0 d2 mc ms index : Nat} {host : String} {e0 : va_E} {w1 : (Nat → Nat) → va_W} (hM : CtrN l D cy d2 mc ms y cc2 1 h0 e0 w1) (hco : Cond.code y cc2 1 none ∈ lw_good) (hl : Cond.methodLinkNest own index y host ∈ lw_tbl) (hi : Cond.instanceMethod y ∈ lw_good) (hini : Cond.initialized y.cls ∈ lw_good) (hy : y.name = "<init>") (hdd : y.cls ≠ "java/lang/invoke/MethodHandle" ∧ y.cls ≠ "java/lang/invoke/VarHandle" ∧ (parseMethodDescriptor y.desc).map (fun d => d.parameters.length) = some 0) (hd2 : d2 + 1 ≤ R.frames) (hd3 : 20 + 40 * d2 ≤ R.locals) (hcells : cells + mc ≤ R.cells) (hslots : slots + ms ≤ R.slots) (hw : (st.map fun v => v.category).sum ≤ 8) (hd : decode cc pc = .ok (.invokespecial index, 3)) (kk : ∀ u : Nat → Nat, Y p l e R s m args below meth c nL D A Q (cells + mc) (slots + ms) (pc + 3) lv st W0 (L ++ w1 u)) : Y p l e R s m args below meth c nL D A Q cells slots pc lv (.ref h0 :: st) W0 (L ++ [(h0, e0)]) := by
  intro H locs ls h1 h2 h3 h4
  rw [← List.append_assoc] at h1 h2
  have hK := C.2.2.2.2.2.1
  have hts := C.2.2.2.2.1
  have hPc : va_P D classes [(h0, e0)] H := fun k q hq => by
    have hk0 : k < 1 := (List.getElem?_eq_some_iff.mp hq).1
    obtain rfl : k = 0 := by omega
    exact h1 (W0 ++ L).length q (by rw [List.getElem?_append_right (Nat.le_refl _), Nat.sub_self]; exact hq)
  have hF : ∀ q, va_A [(h0, e0)] H.size q → A q := fun q h => by
    rcases h with ⟨k, y, h⟩ | h
    · have := List.mem_of_getElem? h
      rw [List.mem_singleton] at this
      have h5 := h2.2 (W0 ++ L).length (h0, e0) (by rw [List.getElem?_append_right (Nat.le_refl _), Nat.sub_self]; rfl)
      rw [(Prod.mk.inj this).1]
      exact h5
    · exact C.2.2.2.2.2.2.2 q (Nat.le_trans h3.1 h)
  refine va_callv (va_runIN (As := []) (rest := st) (nL := nL) ⟨C.1, C.2.1, C.2.2.1, C.2.2.2.1, hts⟩ (hM H.size) ⟨va_cnB 0 hts (CX_good hco) rfl rfl rfl (C.2.2.2.2.2.2.1.1.2 _ _ _ _ hl) (hts _ hini) hdd ⟨hd2, by show 8 + (1 + 11) + 40 * d2 ≤ _; omega⟩, hy, hts _ hi⟩ ⟨fun a U g mk h => ⟨h.1, h.2.1, h.2.2.1, va_K.moved (u := U) (U := U.calling g mk a) (Vm.Alike.refl U.vm) h.2.2.2.1, wNest.moved (s := U) (U := U.calling g mk a) (State.WarmedH.refl U) h.2.2.2.2.1, wAO.moved (u := U) (U := U.calling g mk a) (Vm.Alike.refl U.vm) h.2.2.2.2.2⟩, fun U hU hW => ⟨rfl, by rw [hU], by rw [hU]; exact hPc, va_K.moved hW.alike hK, wNest.moved hW C.2.2.2.2.2.2.1.1, wAO.moved hW.alike C.2.2.2.2.2.2.1.2⟩⟩ rfl rfl h4.1 rfl (lv_room hw) hd ⟨hcells, hslots⟩) h3 (fun q _ h => hF q h) hF (fun u t H1 locs1 ht hvm _ hB hz1 hk1 hS1 => ?_)
  obtain ⟨hP1, hD1⟩ := hB
  rw [ht] at hP1
  have hj := y_join h1 h2 hk1 hF hP1 hD1
  rw [List.append_assoc] at hj
  exact kk u H1 locs1 ls hj.1 hj.2 hS1 h4
end YR
