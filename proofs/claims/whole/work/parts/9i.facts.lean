/-! what the start gives: classes, rows, statics, texts -/
def wTm (i : Nat) : Term := .string (wTx.getD i ("", 0, "")).1 (wTx.getD i ("", 0, "")).2.1
theorem fl {w : Cond} (k : Nat) (h : (flatC (Jvm.Cond.and given_1 narrow_1))[k]? = some w) : w ∈ flatC (Jvm.Cond.and given_1 narrow_1) := List.mem_of_getElem? h
set_option maxRecDepth 100000 in
theorem sf_ex_p : ∀ i, i < 13 → (flatC (Jvm.Cond.and given_1 narrow_1))[([62, 117, 125, 135, 147, 159, 171, 184, 201, 217, 235, 251, 269] : List Nat).getD i 0]? = some (Cond.exactly (wTm i) "java/lang/String") := by decide +kernel
theorem sf_ex : ∀ i, i < 13 → (Cond.exactly (wTm i) "java/lang/String") ∈ flatC (Jvm.Cond.and given_1 narrow_1) := fun i h => fl _ (sf_ex_p i h)
set_option maxRecDepth 100000 in
theorem sf_co_p : ∀ i, i < 13 → (flatC (Jvm.Cond.and given_1 narrow_1))[([63, 118, 126, 136, 148, 160, 172, 185, 202, 218, 236, 252, 270] : List Nat).getD i 0]? = some (Cond.eq (.field (wTm i) "java/lang/String" "coder" "B") (.int 0)) := by decide +kernel
theorem sf_co : ∀ i, i < 13 → (Cond.eq (.field (wTm i) "java/lang/String" "coder" "B") (.int 0)) ∈ flatC (Jvm.Cond.and given_1 narrow_1) := fun i h => fl _ (sf_co_p i h)
set_option maxRecDepth 100000 in
theorem sf_ar_p : ∀ i, i < 13 → (flatC (Jvm.Cond.and given_1 narrow_1))[([64, 119, 127, 137, 149, 161, 173, 186, 203, 219, 237, 253, 271] : List Nat).getD i 0]? = some (Cond.arrayOf (.field (wTm i) "java/lang/String" "value" "[B") .byte) := by decide +kernel
theorem sf_ar : ∀ i, i < 13 → (Cond.arrayOf (.field (wTm i) "java/lang/String" "value" "[B") .byte) ∈ flatC (Jvm.Cond.and given_1 narrow_1) := fun i h => fl _ (sf_ar_p i h)
set_option maxRecDepth 100000 in
theorem sf_le_p : ∀ i, i < 13 → (flatC (Jvm.Cond.and given_1 narrow_1))[([65, 120, 128, 138, 150, 162, 174, 187, 204, 220, 238, 254, 272] : List Nat).getD i 0]? = some (Cond.eq (.length (.field (wTm i) "java/lang/String" "value" "[B")) (.int (Int32.ofNat (wTlen.getD i 0)))) := by decide +kernel
theorem sf_le : ∀ i, i < 13 → (Cond.eq (.length (.field (wTm i) "java/lang/String" "value" "[B")) (.int (Int32.ofNat (wTlen.getD i 0)))) ∈ flatC (Jvm.Cond.and given_1 narrow_1) := fun i h => fl _ (sf_le_p i h)
set_option maxRecDepth 100000 in
theorem sf_el_p : ∀ i, i < 13 → ∀ j, j < wTlen.getD i 0 → (flatC (Jvm.Cond.and given_1 narrow_1))[([66, 121, 129, 139, 151, 163, 175, 188, 205, 221, 239, 255, 273] : List Nat).getD i 0 + j]? = some (Cond.eq (.elem (.field (wTm i) "java/lang/String" "value" "[B") (.int (Int32.ofNat j))) (.int ((wTby.getD i []).getD j 0))) := by decide +kernel
theorem sf_el : ∀ i, i < 13 → ∀ j, j < wTlen.getD i 0 → (Cond.eq (.elem (.field (wTm i) "java/lang/String" "value" "[B") (.int (Int32.ofNat j))) (.int ((wTby.getD i []).getD j 0))) ∈ flatC (Jvm.Cond.and given_1 narrow_1) := fun i h j hj => fl _ (sf_el_p i h j hj)
set_option maxRecDepth 100000 in
theorem sf_ne_p : ∀ i, i < 13 → ∀ j, j < 13 → i < j → (flatC (Jvm.Cond.and given_1 narrow_1))[([0, 124, 133, 144, 155, 166, 178, 194, 209, 226, 241, 258, 276, 0, 0, 134, 145, 156, 167, 179, 195, 210, 227, 242, 259, 277, 0, 0, 0, 146, 157, 168, 180, 196, 211, 228, 243, 260, 278, 0, 0, 0, 0, 158, 169, 181, 197, 212, 229, 244, 261, 279, 0, 0, 0, 0, 0, 170, 182, 198, 213, 230, 245, 262, 280, 0, 0, 0, 0, 0, 0, 183, 199, 214, 231, 246, 263, 281, 0, 0, 0, 0, 0, 0, 0, 200, 215, 232, 247, 264, 282, 0, 0, 0, 0, 0, 0, 0, 0, 216, 233, 248, 265, 283, 0, 0, 0, 0, 0, 0, 0, 0, 0, 234, 249, 266, 284, 0, 0, 0, 0, 0, 0, 0, 0, 0, 0, 250, 267, 285, 0, 0, 0, 0, 0, 0, 0, 0, 0, 0, 0, 268, 286, 0, 0, 0, 0, 0, 0, 0, 0, 0, 0, 0, 0, 287, 0, 0, 0, 0, 0, 0, 0, 0, 0, 0, 0, 0, 0] : List Nat).getD (13 * i + j) 0]? = some (Cond.not (Cond.eq (wTm i) (wTm j))) := by decide +kernel
theorem sf_ne (i : Nat) (hi : i < 13) (j : Nat) (hj : j < 13) (h : i ≠ j) : (Cond.not (Cond.eq (wTm i) (wTm j))) ∈ flatC (Jvm.Cond.and given_1 narrow_1) ∨ (Cond.not (Cond.eq (wTm j) (wTm i))) ∈ flatC (Jvm.Cond.and given_1 narrow_1) := by
  rcases Nat.lt_or_gt_of_ne h with z | z
  · exact Or.inl (fl _ (sf_ne_p i hi j hj z))
  · exact Or.inr (fl _ (sf_ne_p j hj i hi z))
set_option maxRecDepth 100000 in
theorem sf_u1 : (Cond.arrayOf (.static "CostsAge" "UNDER" "[I") .int) ∈ flatC (Jvm.Cond.and given_1 narrow_1) := fl 10 (by decide +kernel)
set_option maxRecDepth 100000 in
theorem sf_u2 : (Cond.eq (.length (.static "CostsAge" "UNDER" "[I")) (.int 6)) ∈ flatC (Jvm.Cond.and given_1 narrow_1) := fl 11 (by decide +kernel)
set_option maxRecDepth 100000 in
theorem sf_u3 : (Cond.eq (.static "java/lang/String" "COMPACT_STRINGS" "Z") (.int 1)) ∈ flatC (Jvm.Cond.and given_1 narrow_1) := fl 4 (by decide +kernel)
set_option maxRecDepth 100000 in
theorem sf_u4 : (Cond.isRef (.static "jdk/internal/util/Preconditions" "SIOOBE_FORMATTER" "Ljava/util/function/BiFunction;")) ∈ flatC (Jvm.Cond.and given_1 narrow_1) := fl 5 (by decide +kernel)
set_option maxRecDepth 100000 in
theorem sf_ue_p : ∀ j, j < 6 → (flatC (Jvm.Cond.and given_1 narrow_1))[([12, 13, 14, 15, 16, 17] : List Nat).getD j 0]? = some (Cond.eq (.elem (.static "CostsAge" "UNDER" "[I") (.int (Int32.ofNat j))) (.int (wUnder j))) := by decide +kernel
theorem sf_ue : ∀ j, j < 6 → (Cond.eq (.elem (.static "CostsAge" "UNDER" "[I") (.int (Int32.ofNat j))) (.int (wUnder j))) ∈ flatC (Jvm.Cond.and given_1 narrow_1) := fun j h => fl _ (sf_ue_p j h)
theorem sf_sr : ∀ (i : Nat) (q : String × Nat × String), wTx[i]? = some q → Cond.stringRef q.1 q.2.1 q.2.2 ∈ lw_tbl := by
  intro i q h
  match i, h with
  | 0, h => cases h; exact tb 251 (by decide +kernel)
  | 1, h => cases h; exact tb 319 (by decide +kernel)
  | 2, h => cases h; exact tb 326 (by decide +kernel)
  | 3, h => cases h; exact tb 327 (by decide +kernel)
  | 4, h => cases h; exact tb 328 (by decide +kernel)
  | 5, h => cases h; exact tb 329 (by decide +kernel)
  | 6, h => cases h; exact tb 330 (by decide +kernel)
  | 7, h => cases h; exact tb 331 (by decide +kernel)
  | 8, h => cases h; exact tb 332 (by decide +kernel)
  | 9, h => cases h; exact tb 333 (by decide +kernel)
  | 10, h => cases h; exact tb 334 (by decide +kernel)
  | 11, h => cases h; exact tb 335 (by decide +kernel)
  | 12, h => cases h; exact tb 336 (by decide +kernel)
  | _ + 13, h => simp [wTx] at h
theorem sf_ls1 : Cond.laysStatic "CostsAge" "UNDER" "[I" ∈ lw_tbl := tb 762 (by decide +kernel)
theorem sf_ls2 : Cond.laysStatic "java/lang/String" "COMPACT_STRINGS" "Z" ∈ lw_tbl := tb 261 (by decide +kernel)
theorem sf_ls3 : Cond.laysStatic "jdk/internal/util/Preconditions" "SIOOBE_FORMATTER" "Ljava/util/function/BiFunction;" ∈ lw_tbl := tb 277 (by decide +kernel)
theorem good_tbl {w : Cond} (h : w ∈ lw_good) : w ∈ lw_tbl := (List.mem_filter.mp h).1
theorem wTm_at {i : Nat} {q : String × Nat × String} (h : wTx[i]? = some q) : wTm i = .string q.1 q.2.1 := by
  unfold wTm
  rw [List.getD_eq_getElem?_getD, h]
  rfl
theorem wTx_13 {i : Nat} {q : String × Nat × String} (h : wTx[i]? = some q) : i < 13 := (List.getElem?_eq_some_iff.mp h).1
