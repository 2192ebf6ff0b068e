/-! THE WORLD: objects and arrays by group g and number i; their ints in M.1 g i k, the one long in M.2 -/
abbrev wS : Type := (Nat → Nat → Nat → Int32) × Int64
def wN : Nat → Nat := fun g => match g with
  | 5 => 7
  | 6 => 7
  | 7 => 6
  | 8 => 6
  | 9 => 4
  | 10 => 4
  | 26 => 2
  | 27 => 2
  | 28 => 2
  | 29 => 2
  | _ => 1
def wFm (cy : Nat → ClassId) (ad : Nat → Nat → Nat) (L : Int64) (g i : Nat) (f : Nat → Int32) : va_E := match g with
  | 30 => .inr (10, [.int (f 0), .ref (ad 31 0), .ref (ad 32 0), .int (f 3), .int (f 4), .ref (ad 33 0), .int (f 6), .ref (ad 34 0), .ref (ad 35 0), .ref (ad 36 0), .ref (ad 37 0), .ref (ad 38 0), .int (f 12), .ref (ad 39 0), .ref (ad 40 0), .ref (ad 41 0), .int (f 16), .int (f 17), .int (f 18), .int (f 19), .int (f 20), .int (f 21), .int (f 22), .int (f 23), .int (f 24), .int (f 25), .int (f 26), .int (f 27), .int (f 28), .int (f 29), .int (f 30), .int (f 31), .int (f 32), .long L, .int (f 34), .int (f 35), .int (f 36), .int (f 37), .int (f 38), .ref (ad 42 0), .ref (ad 43 0), .ref (ad 44 0), .ref (ad 45 0), .ref (ad 46 0), .ref (ad 47 0), .ref (ad 48 0), .ref (ad 49 0), .ref (ad 50 0), .ref (ad 51 0), .int (f 49), .int (f 50), .int (f 51), .int (f 52), .int (f 53), .int (f 54), .int (f 55), .int (f 56), .ref (ad 52 0), .ref (ad 53 0), .ref (ad 54 0), .ref (ad 55 0)])
  | 31 => .inl (cy 0, 960, .inl f)
  | 32 => .inl (cy 0, 6, .inl f)
  | 33 => .inl (cy 0, 160, .inl f)
  | 34 => .inl (cy 0, 7, .inl f)
  | 35 => .inl (cy 0, 7, .inl f)
  | 36 => .inl (cy 0, 7, .inl f)
  | 37 => .inl (cy 0, 7, .inl f)
  | 38 => .inl (cy 0, 7, .inl f)
  | 39 => .inl (cy 0, 7, .inl f)
  | 40 => .inl (cy 0, 7, .inl f)
  | 41 => .inl (cy 0, 7, .inl f)
  | 42 => .inl (cy 0, 128, .inl f)
  | 43 => .inl (cy 0, 128, .inl f)
  | 44 => .inl (cy 0, 128, .inl f)
  | 45 => .inl (cy 0, 128, .inl f)
  | 46 => .inl (cy 0, 128, .inl f)
  | 47 => .inl (cy 0, 128, .inl f)
  | 48 => .inl (cy 0, 7, .inl f)
  | 49 => .inl (cy 0, 7, .inl f)
  | 50 => .inl (cy 0, 7, .inl f)
  | 51 => .inl (cy 0, 7, .inl f)
  | 52 => .inl (cy 1, 4, .inl f)
  | 53 => .inl (cy 0, 4, .inl f)
  | 54 => .inl (cy 0, 4, .inl f)
  | _ => .inl (cy 0, 160, .inl f)
def wF (cy : Nat → ClassId) (ad : Nat → Nat → Nat) (L : Int64) (g i : Nat) (f : Nat → Int32) : va_E := match g with
  | 0 => .inr (9, [.ref (ad 1 0), .ref (ad 2 0), .ref (ad 3 0), .ref (ad 4 0), .ref (ad 11 0), .ref (ad 13 0), .ref (ad 16 0), .ref (ad 22 0), .ref (ad 26 0), .ref (ad 26 1), .int (f 10), .int (f 11), .int (f 12), .int (f 13)])
  | 1 => .inl (cy 2, 7, .inr (.inr (.inr (.inr (fun j => some (ad 5 j))))))
  | 2 => .inl (cy 3, 7, .inr (.inr (.inr (.inr (fun j => some (ad 6 j))))))
  | 3 => .inl (cy 4, 6, .inr (.inr (.inr (.inr (fun j => some (ad 7 j))))))
  | 4 => .inl (cy 5, 4, .inr (.inr (.inr (.inr (fun j => some (ad 9 j))))))
  | 5 => .inr (0, [.int (f 0), .int (f 1), .int (f 2)])
  | 6 => .inr (8, [.int (f 0), .int (f 1)])
  | 7 => .inr (7, [.ref (ad 8 i), .int (f 1), .int (f 2), .int (f 3)])
  | 8 => .inl (cy 0, 160, .inl f)
  | 9 => .inr (5, [.ref (ad 10 i), .int (f 1), .int (f 2)])
  | 10 => .inl (cy 0, 40, .inl f)
  | 11 => .inr (3, [.ref (ad 12 0), .int (f 1), .int (f 2), .int (f 3), .int (f 4), .int (f 5), .int (f 6), .int (f 7)])
  | 12 => .inl (cy 0, 160, .inl f)
  | 13 => .inr (4, [.ref (ad 14 0), .ref (ad 15 0), .int (f 2)])
  | 14 => .inl (cy 0, 6, .inl f)
  | 15 => .inl (cy 0, 160, .inl f)
  | 16 => .inr (2, [.ref (ad 17 0), .ref (ad 18 0), .ref (ad 19 0), .ref (ad 20 0), .ref (ad 21 0)])
  | 17 => .inl (cy 0, 128, .inl f)
  | 18 => .inl (cy 0, 128, .inl f)
  | 19 => .inl (cy 0, 128, .inl f)
  | 20 => .inl (cy 0, 128, .inl f)
  | 21 => .inl (cy 0, 128, .inl f)
  | 22 => .inr (1, [.ref (ad 23 0), .ref (ad 24 0), .ref (ad 25 0)])
  | 23 => .inl (cy 0, 49, .inl f)
  | 24 => .inl (cy 0, 7, .inl f)
  | 25 => .inl (cy 0, 7, .inl f)
  | 26 => .inr (6, [.ref (ad 27 i), .ref (ad 28 i), .ref (ad 29 i), .int (f 3), .int (f 4), .int (f 5), .int (f 6), .int (f 7), .int (f 8), .int (f 9), .int (f 10)])
  | 27 => .inl (cy 0, 7, .inl f)
  | 28 => .inl (cy 0, 7, .inl f)
  | 29 => .inl (cy 0, 7, .inl f)
  | _ => wFm cy ad L g i f
theorem wF_0 {cy : Nat → ClassId} {ad : Nat → Nat → Nat} {L : Int64} {i : Nat} {f : Nat → Int32} : wF cy ad L 0 i f = .inr (9, [.ref (ad 1 0), .ref (ad 2 0), .ref (ad 3 0), .ref (ad 4 0), .ref (ad 11 0), .ref (ad 13 0), .ref (ad 16 0), .ref (ad 22 0), .ref (ad 26 0), .ref (ad 26 1), .int (f 10), .int (f 11), .int (f 12), .int (f 13)]) := rfl
theorem wF_1 {cy : Nat → ClassId} {ad : Nat → Nat → Nat} {L : Int64} {i : Nat} {f : Nat → Int32} : wF cy ad L 1 i f = .inl (cy 2, 7, .inr (.inr (.inr (.inr (fun j => some (ad 5 j)))))) := rfl
theorem wF_2 {cy : Nat → ClassId} {ad : Nat → Nat → Nat} {L : Int64} {i : Nat} {f : Nat → Int32} : wF cy ad L 2 i f = .inl (cy 3, 7, .inr (.inr (.inr (.inr (fun j => some (ad 6 j)))))) := rfl
theorem wF_3 {cy : Nat → ClassId} {ad : Nat → Nat → Nat} {L : Int64} {i : Nat} {f : Nat → Int32} : wF cy ad L 3 i f = .inl (cy 4, 6, .inr (.inr (.inr (.inr (fun j => some (ad 7 j)))))) := rfl
theorem wF_4 {cy : Nat → ClassId} {ad : Nat → Nat → Nat} {L : Int64} {i : Nat} {f : Nat → Int32} : wF cy ad L 4 i f = .inl (cy 5, 4, .inr (.inr (.inr (.inr (fun j => some (ad 9 j)))))) := rfl
theorem wF_5 {cy : Nat → ClassId} {ad : Nat → Nat → Nat} {L : Int64} {i : Nat} {f : Nat → Int32} : wF cy ad L 5 i f = .inr (0, [.int (f 0), .int (f 1), .int (f 2)]) := rfl
theorem wF_6 {cy : Nat → ClassId} {ad : Nat → Nat → Nat} {L : Int64} {i : Nat} {f : Nat → Int32} : wF cy ad L 6 i f = .inr (8, [.int (f 0), .int (f 1)]) := rfl
theorem wF_7 {cy : Nat → ClassId} {ad : Nat → Nat → Nat} {L : Int64} {i : Nat} {f : Nat → Int32} : wF cy ad L 7 i f = .inr (7, [.ref (ad 8 i), .int (f 1), .int (f 2), .int (f 3)]) := rfl
theorem wF_8 {cy : Nat → ClassId} {ad : Nat → Nat → Nat} {L : Int64} {i : Nat} {f : Nat → Int32} : wF cy ad L 8 i f = .inl (cy 0, 160, .inl f) := rfl
theorem wF_9 {cy : Nat → ClassId} {ad : Nat → Nat → Nat} {L : Int64} {i : Nat} {f : Nat → Int32} : wF cy ad L 9 i f = .inr (5, [.ref (ad 10 i), .int (f 1), .int (f 2)]) := rfl
theorem wF_10 {cy : Nat → ClassId} {ad : Nat → Nat → Nat} {L : Int64} {i : Nat} {f : Nat → Int32} : wF cy ad L 10 i f = .inl (cy 0, 40, .inl f) := rfl
theorem wF_11 {cy : Nat → ClassId} {ad : Nat → Nat → Nat} {L : Int64} {i : Nat} {f : Nat → Int32} : wF cy ad L 11 i f = .inr (3, [.ref (ad 12 0), .int (f 1), .int (f 2), .int (f 3), .int (f 4), .int (f 5), .int (f 6), .int (f 7)]) := rfl
theorem wF_12 {cy : Nat → ClassId} {ad : Nat → Nat → Nat} {L : Int64} {i : Nat} {f : Nat → Int32} : wF cy ad L 12 i f = .inl (cy 0, 160, .inl f) := rfl
theorem wF_13 {cy : Nat → ClassId} {ad : Nat → Nat → Nat} {L : Int64} {i : Nat} {f : Nat → Int32} : wF cy ad L 13 i f = .inr (4, [.ref (ad 14 0), .ref (ad 15 0), .int (f 2)]) := rfl
theorem wF_14 {cy : Nat → ClassId} {ad : Nat → Nat → Nat} {L : Int64} {i : Nat} {f : Nat → Int32} : wF cy ad L 14 i f = .inl (cy 0, 6, .inl f) := rfl
theorem wF_15 {cy : Nat → ClassId} {ad : Nat → Nat → Nat} {L : Int64} {i : Nat} {f : Nat → Int32} : wF cy ad L 15 i f = .inl (cy 0, 160, .inl f) := rfl
theorem wF_16 {cy : Nat → ClassId} {ad : Nat → Nat → Nat} {L : Int64} {i : Nat} {f : Nat → Int32} : wF cy ad L 16 i f = .inr (2, [.ref (ad 17 0), .ref (ad 18 0), .ref (ad 19 0), .ref (ad 20 0), .ref (ad 21 0)]) := rfl
theorem wF_17 {cy : Nat → ClassId} {ad : Nat → Nat → Nat} {L : Int64} {i : Nat} {f : Nat → Int32} : wF cy ad L 17 i f = .inl (cy 0, 128, .inl f) := rfl
theorem wF_18 {cy : Nat → ClassId} {ad : Nat → Nat → Nat} {L : Int64} {i : Nat} {f : Nat → Int32} : wF cy ad L 18 i f = .inl (cy 0, 128, .inl f) := rfl
theorem wF_19 {cy : Nat → ClassId} {ad : Nat → Nat → Nat} {L : Int64} {i : Nat} {f : Nat → Int32} : wF cy ad L 19 i f = .inl (cy 0, 128, .inl f) := rfl
theorem wF_20 {cy : Nat → ClassId} {ad : Nat → Nat → Nat} {L : Int64} {i : Nat} {f : Nat → Int32} : wF cy ad L 20 i f = .inl (cy 0, 128, .inl f) := rfl
theorem wF_21 {cy : Nat → ClassId} {ad : Nat → Nat → Nat} {L : Int64} {i : Nat} {f : Nat → Int32} : wF cy ad L 21 i f = .inl (cy 0, 128, .inl f) := rfl
theorem wF_22 {cy : Nat → ClassId} {ad : Nat → Nat → Nat} {L : Int64} {i : Nat} {f : Nat → Int32} : wF cy ad L 22 i f = .inr (1, [.ref (ad 23 0), .ref (ad 24 0), .ref (ad 25 0)]) := rfl
theorem wF_23 {cy : Nat → ClassId} {ad : Nat → Nat → Nat} {L : Int64} {i : Nat} {f : Nat → Int32} : wF cy ad L 23 i f = .inl (cy 0, 49, .inl f) := rfl
theorem wF_24 {cy : Nat → ClassId} {ad : Nat → Nat → Nat} {L : Int64} {i : Nat} {f : Nat → Int32} : wF cy ad L 24 i f = .inl (cy 0, 7, .inl f) := rfl
theorem wF_25 {cy : Nat → ClassId} {ad : Nat → Nat → Nat} {L : Int64} {i : Nat} {f : Nat → Int32} : wF cy ad L 25 i f = .inl (cy 0, 7, .inl f) := rfl
theorem wF_26 {cy : Nat → ClassId} {ad : Nat → Nat → Nat} {L : Int64} {i : Nat} {f : Nat → Int32} : wF cy ad L 26 i f = .inr (6, [.ref (ad 27 i), .ref (ad 28 i), .ref (ad 29 i), .int (f 3), .int (f 4), .int (f 5), .int (f 6), .int (f 7), .int (f 8), .int (f 9), .int (f 10)]) := rfl
theorem wF_27 {cy : Nat → ClassId} {ad : Nat → Nat → Nat} {L : Int64} {i : Nat} {f : Nat → Int32} : wF cy ad L 27 i f = .inl (cy 0, 7, .inl f) := rfl
theorem wF_28 {cy : Nat → ClassId} {ad : Nat → Nat → Nat} {L : Int64} {i : Nat} {f : Nat → Int32} : wF cy ad L 28 i f = .inl (cy 0, 7, .inl f) := rfl
theorem wF_29 {cy : Nat → ClassId} {ad : Nat → Nat → Nat} {L : Int64} {i : Nat} {f : Nat → Int32} : wF cy ad L 29 i f = .inl (cy 0, 7, .inl f) := rfl
theorem wF_30 {cy : Nat → ClassId} {ad : Nat → Nat → Nat} {L : Int64} {i : Nat} {f : Nat → Int32} : wF cy ad L 30 i f = .inr (10, [.int (f 0), .ref (ad 31 0), .ref (ad 32 0), .int (f 3), .int (f 4), .ref (ad 33 0), .int (f 6), .ref (ad 34 0), .ref (ad 35 0), .ref (ad 36 0), .ref (ad 37 0), .ref (ad 38 0), .int (f 12), .ref (ad 39 0), .ref (ad 40 0), .ref (ad 41 0), .int (f 16), .int (f 17), .int (f 18), .int (f 19), .int (f 20), .int (f 21), .int (f 22), .int (f 23), .int (f 24), .int (f 25), .int (f 26), .int (f 27), .int (f 28), .int (f 29), .int (f 30), .int (f 31), .int (f 32), .long L, .int (f 34), .int (f 35), .int (f 36), .int (f 37), .int (f 38), .ref (ad 42 0), .ref (ad 43 0), .ref (ad 44 0), .ref (ad 45 0), .ref (ad 46 0), .ref (ad 47 0), .ref (ad 48 0), .ref (ad 49 0), .ref (ad 50 0), .ref (ad 51 0), .int (f 49), .int (f 50), .int (f 51), .int (f 52), .int (f 53), .int (f 54), .int (f 55), .int (f 56), .ref (ad 52 0), .ref (ad 53 0), .ref (ad 54 0), .ref (ad 55 0)]) := rfl
theorem wF_31 {cy : Nat → ClassId} {ad : Nat → Nat → Nat} {L : Int64} {i : Nat} {f : Nat → Int32} : wF cy ad L 31 i f = .inl (cy 0, 960, .inl f) := rfl
theorem wF_32 {cy : Nat → ClassId} {ad : Nat → Nat → Nat} {L : Int64} {i : Nat} {f : Nat → Int32} : wF cy ad L 32 i f = .inl (cy 0, 6, .inl f) := rfl
theorem wF_33 {cy : Nat → ClassId} {ad : Nat → Nat → Nat} {L : Int64} {i : Nat} {f : Nat → Int32} : wF cy ad L 33 i f = .inl (cy 0, 160, .inl f) := rfl
theorem wF_34 {cy : Nat → ClassId} {ad : Nat → Nat → Nat} {L : Int64} {i : Nat} {f : Nat → Int32} : wF cy ad L 34 i f = .inl (cy 0, 7, .inl f) := rfl
theorem wF_35 {cy : Nat → ClassId} {ad : Nat → Nat → Nat} {L : Int64} {i : Nat} {f : Nat → Int32} : wF cy ad L 35 i f = .inl (cy 0, 7, .inl f) := rfl
theorem wF_36 {cy : Nat → ClassId} {ad : Nat → Nat → Nat} {L : Int64} {i : Nat} {f : Nat → Int32} : wF cy ad L 36 i f = .inl (cy 0, 7, .inl f) := rfl
theorem wF_37 {cy : Nat → ClassId} {ad : Nat → Nat → Nat} {L : Int64} {i : Nat} {f : Nat → Int32} : wF cy ad L 37 i f = .inl (cy 0, 7, .inl f) := rfl
theorem wF_38 {cy : Nat → ClassId} {ad : Nat → Nat → Nat} {L : Int64} {i : Nat} {f : Nat → Int32} : wF cy ad L 38 i f = .inl (cy 0, 7, .inl f) := rfl
theorem wF_39 {cy : Nat → ClassId} {ad : Nat → Nat → Nat} {L : Int64} {i : Nat} {f : Nat → Int32} : wF cy ad L 39 i f = .inl (cy 0, 7, .inl f) := rfl
theorem wF_40 {cy : Nat → ClassId} {ad : Nat → Nat → Nat} {L : Int64} {i : Nat} {f : Nat → Int32} : wF cy ad L 40 i f = .inl (cy 0, 7, .inl f) := rfl
theorem wF_41 {cy : Nat → ClassId} {ad : Nat → Nat → Nat} {L : Int64} {i : Nat} {f : Nat → Int32} : wF cy ad L 41 i f = .inl (cy 0, 7, .inl f) := rfl
theorem wF_42 {cy : Nat → ClassId} {ad : Nat → Nat → Nat} {L : Int64} {i : Nat} {f : Nat → Int32} : wF cy ad L 42 i f = .inl (cy 0, 128, .inl f) := rfl
theorem wF_43 {cy : Nat → ClassId} {ad : Nat → Nat → Nat} {L : Int64} {i : Nat} {f : Nat → Int32} : wF cy ad L 43 i f = .inl (cy 0, 128, .inl f) := rfl
theorem wF_44 {cy : Nat → ClassId} {ad : Nat → Nat → Nat} {L : Int64} {i : Nat} {f : Nat → Int32} : wF cy ad L 44 i f = .inl (cy 0, 128, .inl f) := rfl
theorem wF_45 {cy : Nat → ClassId} {ad : Nat → Nat → Nat} {L : Int64} {i : Nat} {f : Nat → Int32} : wF cy ad L 45 i f = .inl (cy 0, 128, .inl f) := rfl
theorem wF_46 {cy : Nat → ClassId} {ad : Nat → Nat → Nat} {L : Int64} {i : Nat} {f : Nat → Int32} : wF cy ad L 46 i f = .inl (cy 0, 128, .inl f) := rfl
theorem wF_47 {cy : Nat → ClassId} {ad : Nat → Nat → Nat} {L : Int64} {i : Nat} {f : Nat → Int32} : wF cy ad L 47 i f = .inl (cy 0, 128, .inl f) := rfl
theorem wF_48 {cy : Nat → ClassId} {ad : Nat → Nat → Nat} {L : Int64} {i : Nat} {f : Nat → Int32} : wF cy ad L 48 i f = .inl (cy 0, 7, .inl f) := rfl
theorem wF_49 {cy : Nat → ClassId} {ad : Nat → Nat → Nat} {L : Int64} {i : Nat} {f : Nat → Int32} : wF cy ad L 49 i f = .inl (cy 0, 7, .inl f) := rfl
theorem wF_50 {cy : Nat → ClassId} {ad : Nat → Nat → Nat} {L : Int64} {i : Nat} {f : Nat → Int32} : wF cy ad L 50 i f = .inl (cy 0, 7, .inl f) := rfl
theorem wF_51 {cy : Nat → ClassId} {ad : Nat → Nat → Nat} {L : Int64} {i : Nat} {f : Nat → Int32} : wF cy ad L 51 i f = .inl (cy 0, 7, .inl f) := rfl
theorem wF_52 {cy : Nat → ClassId} {ad : Nat → Nat → Nat} {L : Int64} {i : Nat} {f : Nat → Int32} : wF cy ad L 52 i f = .inl (cy 1, 4, .inl f) := rfl
theorem wF_53 {cy : Nat → ClassId} {ad : Nat → Nat → Nat} {L : Int64} {i : Nat} {f : Nat → Int32} : wF cy ad L 53 i f = .inl (cy 0, 4, .inl f) := rfl
theorem wF_54 {cy : Nat → ClassId} {ad : Nat → Nat → Nat} {L : Int64} {i : Nat} {f : Nat → Int32} : wF cy ad L 54 i f = .inl (cy 0, 4, .inl f) := rfl
theorem wF_55 {cy : Nat → ClassId} {ad : Nat → Nat → Nat} {L : Int64} {i : Nat} {f : Nat → Int32} : wF cy ad L 55 i f = .inl (cy 0, 160, .inl f) := rfl
def wIdx (G : Nat) : List (Nat × Nat) := (List.range G).flatMap (fun g => (List.range (wN g)).map (fun i => (g, i)))
def wG (G g i : Nat) : Prop := g < G ∧ i < wN g
theorem wIdx_mem {G g i : Nat} : (g, i) ∈ wIdx G ↔ wG G g i := by
  simp only [wIdx, wG, List.mem_flatMap, List.mem_range, List.mem_map, Prod.mk.injEq]
  constructor
  · rintro ⟨a, h1, b, h2, rfl, rfl⟩
    exact ⟨h1, h2⟩
  · rintro ⟨h1, h2⟩
    exact ⟨g, h1, i, h2, rfl, rfl⟩
def wL (cy : Nat → ClassId) (ad : Nat → Nat → Nat) (G : Nat) (M : wS) : va_W := (wIdx G).map (fun q => (ad q.1 q.2, wF cy ad M.2 q.1 q.2 (M.1 q.1 q.2)))
theorem wL_get {cy : Nat → ClassId} {ad : Nat → Nat → Nat} {G : Nat} {M : wS} {k : Nat} {g i : Nat} (h : (wIdx G)[k]? = some (g, i)) : (wL cy ad G M)[k]? = some (ad g i, wF cy ad M.2 g i (M.1 g i)) := by
  rw [wL, List.getElem?_map, h]
  rfl
theorem wL_at {G g i : Nat} (h : wG G g i) : ∃ k : Nat, (wIdx G)[k]? = some (g, i) := List.getElem?_of_mem (wIdx_mem.mpr h)
theorem wL_set {cy : Nat → ClassId} {ad : Nat → Nat → Nat} {G : Nat} {M M' : wS} {A : Nat → Prop} {k g i : Nat} (hD : va_D A (wL cy ad G M)) (hk : (wIdx G)[k]? = some (g, i)) (hs : ∀ g' i', wG G g' i' → ¬ (g' = g ∧ i' = i) → wF cy ad M'.2 g' i' (M'.1 g' i') = wF cy ad M.2 g' i' (M.1 g' i')) :
    (wL cy ad G M).set k (ad g i, wF cy ad M'.2 g i (M'.1 g i)) = wL cy ad G M' := by
  apply List.ext_getElem?
  intro j
  by_cases hj : j = k
  · subst hj
    have hl : j < (wL cy ad G M).length := (List.getElem?_eq_some_iff.mp (wL_get (cy := cy) (ad := ad) (M := M) hk)).1
    rw [List.getElem?_set_self hl, wL_get hk]
  · rw [List.getElem?_set_ne (Ne.symm hj)]
    cases hq : (wIdx G)[j]? with
    | none => simp only [wL, List.getElem?_map, hq, Option.map_none]
    | some q =>
      obtain ⟨g', i'⟩ := q
      rw [wL_get hq, wL_get hq, hs g' i' (wIdx_mem.mp (List.mem_of_getElem? hq)) (fun e => hj ?_)]
      obtain ⟨rfl, rfl⟩ := e
      exact hD.1 j k _ _ (wL_get hq) (wL_get hk) rfl
/-- one int of the memory set -/
def mset (M : wS) (g i k : Nat) (x : Int32) : wS := (fun g' i' => if g' = g ∧ i' = i then upd (M.1 g i) k x else M.1 g' i', M.2)
/-- a whole row of the memory set -/
def mrow (M : wS) (g i : Nat) (f : Nat → Int32) : wS := (fun g' i' => if g' = g ∧ i' = i then f else M.1 g' i', M.2)
theorem mset_row (M : wS) (g i k : Nat) (x : Int32) : mset M g i k x = mrow M g i (upd (M.1 g i) k x) := rfl
theorem mrow_self (M : wS) (g i : Nat) (f : Nat → Int32) : (mrow M g i f).1 g i = f := by simp [mrow]
theorem mrow_ne (M : wS) (g i : Nat) (f : Nat → Int32) {g' i' : Nat} (h : ¬ (g' = g ∧ i' = i)) : (mrow M g i f).1 g' i' = M.1 g' i' := by simp only [mrow, if_neg h]
theorem mset_at (M : wS) (g i k : Nat) (x : Int32) (g' i' j : Nat) : (mset M g i k x).1 g' i' j = if g' = g ∧ i' = i ∧ j = k then x else M.1 g' i' j := by
  by_cases h : g' = g ∧ i' = i
  · obtain ⟨rfl, rfl⟩ := h
    simp [mset, upd]
  · have h2 : ¬ (g' = g ∧ i' = i ∧ j = k) := fun e => h ⟨e.1, e.2.1⟩
    simp only [mset, if_neg h, if_neg h2]
theorem mset_2 (M : wS) (g i k : Nat) (x : Int32) : (mset M g i k x).2 = M.2 := rfl
theorem mrow_2 (M : wS) (g i : Nat) (f : Nat → Int32) : (mrow M g i f).2 = M.2 := rfl
theorem mrow_at (M : wS) (g i : Nat) (f : Nat → Int32) (g' i' j : Nat) : (mrow M g i f).1 g' i' j = if g' = g ∧ i' = i then f j else M.1 g' i' j := by
  by_cases h : g' = g ∧ i' = i <;> simp [mrow, h]
def wTys (cy : Nat → ClassId) : List (ClassId × FieldType) := [(cy 0, .int), (cy 1, .boolean), (cy 2, .object "CostsAge$Buyer"), (cy 3, .object "CostsAge$Ware"), (cy 4, .object "CostsAge$Text"), (cy 5, .object "CostsAge$Sheet")]
def wUnder : Nat → Int32 := fun j => [-1, 0, 0, 1, 1, 2].getD j 0
def wTx : List (String × Nat × String) := [("CostsAge", 79, "serves size < 8 or 9 < age ; adds 0 ; gains value ;"), ("CostsAge$Reader", 106, "age"), ("CostsAge$Reader", 112, "size"), ("CostsAge$Reader", 113, "value"), ("CostsAge$Reader", 115, "week"), ("CostsAge$Reader", 117, "fee"), ("CostsAge$Reader", 119, "own"), ("CostsAge$Reader", 121, "serves"), ("CostsAge$Reader", 123, "adds"), ("CostsAge$Reader", 125, "gains"), ("CostsAge$Reader", 127, "or"), ("CostsAge$Reader", 129, "and"), ("CostsAge$Reader", 131, "not")]
def wTlen : List Nat := [51, 3, 4, 5, 4, 3, 3, 6, 4, 5, 2, 3, 3]
def wTby : List (List Int32) := [[115, 101, 114, 118, 101, 115, 32, 115, 105, 122, 101, 32, 60, 32, 56, 32, 111, 114, 32, 57, 32, 60, 32, 97, 103, 101, 32, 59, 32, 97, 100, 100, 115, 32, 48, 32, 59, 32, 103, 97, 105, 110, 115, 32, 118, 97, 108, 117, 101, 32, 59], [97, 103, 101], [115, 105, 122, 101], [118, 97, 108, 117, 101], [119, 101, 101, 107], [102, 101, 101], [111, 119, 110], [115, 101, 114, 118, 101, 115], [97, 100, 100, 115], [103, 97, 105, 110, 115], [111, 114], [97, 110, 100], [110, 111, 116]]
/-- what never changes: the tables' classes, the nest's links, the static row, the texts -/
def wNest (U : State) : Prop := (∀ (a : String) (i : Nat) (b n d h : String), Cond.fieldLinkNest a i b n d h ∈ lw_tbl → va_Nw (.fieldLinkNest a i b n d h) U) ∧ ∀ (a : String) (i : Nat) (x : MethodName) (h : String), Cond.methodLinkNest a i x h ∈ lw_tbl → va_Nw (.methodLinkNest a i x h) U
def wStr (ad : Nat → Nat → Nat) (A : Nat → Prop) (U : State) (H : Heap) : Prop := vk_S 13 wTlen wTby (ad 61) (ad 62) A U H ∧ (∀ (i : Nat) (q : String × Nat × String), wTx[i]? = some q → vk_R q.1 q.2.1 q.2.2 (ad 61 i) U) ∧ va_Z "java/lang/String" "COMPACT_STRINGS" "Z" (.int 1) A U H ∧ va_Zq "jdk/internal/util/Preconditions" "SIOOBE_FORMATTER" "Ljava/util/function/BiFunction;" A U H
def wEn (D : va_G) (cy : Nat → ClassId) (ad : Nat → Nat → Nat) (A : Nat → Prop) (U : State) (H : Heap) : Prop := va_K D classes (wTys cy) U ∧ wNest U ∧ (va_Z "CostsAge" "UNDER" "[I" (.ref (ad 60 0)) A U H ∧ va_T .int (ad 60 0) 6 (fun j => .int (wUnder j)) A U H) ∧ wStr ad A U H
theorem wEn.moved {D : va_G} {cy : Nat → ClassId} {ad : Nat → Nat → Nat} {A B : Nat → Prop} {s U : State} {H H1 : Heap} (hW : s.WarmedH U.vm) (hAB : ∀ q, B q → A q) (hq : ∀ a : Nat, a < H.size → ¬ A a → H1[a]? = H[a]?) (h : wEn D cy ad A s H) : wEn D cy ad B U H1 := by
  obtain ⟨hK, hN, ⟨hZ, hT⟩, hs, hr, hc, hz⟩ := h
  refine ⟨va_K.moved hW.alike hK, ⟨fun a i b n d h w => va_Nw.warmF hW (hN.1 a i b n d h w), fun a i x h w => va_Nw.warmM hW (hN.2 a i x h w)⟩, ⟨((va_Z.moved hW.alike hZ).kept hq).narrow hAB, ((va_T.moved hW.alike hT).kept hq).narrow hAB⟩, ((vk_S.moved hW.alike hs).kept hq).narrow hAB, fun i q w => vk_R.warm hW (hr i q w), ((va_Z.moved hW.alike hc).kept hq).narrow hAB, ((va_Zq.moved hW.alike hz).kept hq).narrow hAB⟩
def wA (ad : Nat → Nat → Nat) (G : Nat) : Nat → Prop := fun q => ∃ g i, wG G g i ∧ q = ad g i
def wInj (ad : Nat → Nat → Nat) (G : Nat) : Prop := ∀ g i g' i', wG G g i → wG G g' i' → ad g i = ad g' i' → g = g' ∧ i = i'
theorem wIdx_nd (G : Nat) : (wIdx G).Nodup := by
  unfold wIdx
  rw [List.nodup_iff_pairwise_ne, List.pairwise_flatMap]
  refine ⟨fun g _ => ?_, ?_⟩
  · rw [List.pairwise_map]
    exact List.Pairwise.imp (fun h e => h (Prod.mk.inj e).2) (List.nodup_iff_pairwise_ne.mp List.nodup_range)
  · refine List.Pairwise.imp (fun {a b} h x hx y hy e => ?_) (List.nodup_iff_pairwise_ne.mp List.nodup_range)
    obtain ⟨i, -, rfl⟩ := List.mem_map.mp hx
    obtain ⟨j, -, rfl⟩ := List.mem_map.mp hy
    exact h (Prod.mk.inj e).1
theorem wD_of {cy : Nat → ClassId} {ad : Nat → Nat → Nat} {G : Nat} {A : Nat → Prop} (hI : wInj ad G) (hA : ∀ q, wA ad G q → A q) (M : wS) : va_D A (wL cy ad G M) := by
  have key : ∀ (k : Nat) (q : Nat × va_E), (wL cy ad G M)[k]? = some q → ∃ g i, (wIdx G)[k]? = some (g, i) ∧ q.1 = ad g i ∧ wG G g i := by
    intro k q h
    rw [wL, List.getElem?_map] at h
    cases hq : (wIdx G)[k]? with
    | none => rw [hq] at h; cases h
    | some z =>
      rw [hq] at h
      cases h
      exact ⟨z.1, z.2, rfl, rfl, wIdx_mem.mp (List.mem_of_getElem? hq)⟩
  refine ⟨fun i j x y hx hy e => ?_, fun k q h => ?_⟩
  · obtain ⟨g, a, h1, h2, h3⟩ := key i x hx
    obtain ⟨g', a', h4, h5, h6⟩ := key j y hy
    obtain ⟨rfl, rfl⟩ := hI g a g' a' h3 h6 (by rw [← h2, ← h5]; exact e)
    exact (List.getElem?_inj (List.getElem?_eq_some_iff.mp h1).1 (wIdx_nd G)).mp (h1.trans h4.symm)
  · obtain ⟨g, a, h1, h2, h3⟩ := key k q h
    exact hA _ ⟨g, a, h3, h2⟩
def Rm (d : Nat) : Room := { frames := d, cells := 0, slots := 0, locals := 40 * d }
/-- what a walk stands on -/
def CX (p : Program) (s : State) (m : MethodId) (args : Array Value) (c : Code) (cc : ByteArray) (nL : Nat) (own : String) (D : va_G) (cy : Nat → ClassId) (ad : Nat → Nat → Nat) (G : Nat) (A : Nat → Prop) (R : Room) (d cells slots : Nat) : Prop :=
  p.tables.exec = Jvm.exec ∧ c.code = cc ∧ c.maxLocals = nL ∧ s.vm.findClass own = some m.cls ∧ (∀ w ∈ lw_good, w.before args s = true) ∧ wEn D cy ad A s s.heap ∧ wInj ad G ∧ (∀ q, wA ad G q → A q) ∧ (d ≤ R.frames ∧ 40 * d ≤ R.locals ∧ cells ≤ R.cells ∧ slots ≤ R.slots)
/-- THE JUDGEMENT: at pc, with these locals and this stack, over every heap that holds the memory M, the machine comes to Q -/
def V (p : Program) (l : Launch) (e : Env) (R : Room) (s : State) (m : MethodId) (args : Array Value) (below : List Frame) (meth : Method) (c : Code) (nL : Nat) (D : va_G) (cy : Nat → ClassId) (ad : Nat → Nat → Nat) (G : Nat) (A : Nat → Prop) (cells slots : Nat) (Q : State → Prop) (pc : Nat) (lv : List (Nat × Value)) (st : List Value) (M : wS) : Prop :=
  ∀ (H : Heap) (locs : List Loc) (ls : Array Slot), va_P D classes (wL cy ad G M) H → va_S A s.heap H locs → lv_has ls nL lv → W p l e R s m args below meth c H locs cells slots Q (F0 m pc ls st)
/-- the locals with one set -/
def lset (lv : List (Nat × Value)) (i : Nat) (v : Value) : List (Nat × Value) := if lv.any (fun q => q.1 == i) then lv.map (fun q => if q.1 = i then (i, v) else q) else lv ++ [(i, v)]
theorem lset_has {ls : Array Slot} {nL i : Nat} {v : Value} {lv : List (Nat × Value)} (hw : ∀ q ∈ lv, q.1 + 1 = i → q.2.category = 1) (h : lv_has ls nL ((i, v) :: lv.filter (fun q => !(q.1 == i) && !(q.1 + 1 == i && q.2.category == 2)))) : lv_has ls nL (lset lv i v) := by
  refine ⟨h.1, h.2.1, fun q hq => ?_⟩
  have key : q = (i, v) ∨ (q ∈ lv ∧ q.1 ≠ i) := by
    unfold lset at hq
    split at hq
    · obtain ⟨q0, h0, rfl⟩ := List.mem_map.mp hq
      by_cases e : q0.1 = i
      · simp [e]
      · rw [if_neg e]
        exact Or.inr ⟨h0, e⟩
    · next hn =>
      rcases List.mem_append.mp hq with h1 | h1
      · refine Or.inr ⟨h1, fun e => hn ?_⟩
        rw [List.any_eq_true]
        exact ⟨q, h1, by simp [e]⟩
      · exact Or.inl (List.mem_singleton.mp h1)
  rcases key with rfl | ⟨h1, h2⟩
  · exact h.2.2 _ List.mem_cons_self
  · refine h.2.2 q (List.mem_cons_of_mem _ (List.mem_filter.mpr ⟨h1, ?_⟩))
    by_cases e : q.1 + 1 = i
    · simp [h2, hw q h1 e]
    · simp [h2, e]
theorem lset_hasL {ls : Array Slot} {nL i : Nat} {v : Value} {lv : List (Nat × Value)} (hw : ∀ q ∈ lv, q.1 ≠ i + 1 ∧ (q.1 + 1 = i → q.2.category = 1)) (h : lv_has ls nL ((i, v) :: lv.filter (fun q => !(q.1 == i) && (!(q.1 == i + 1) && !(q.1 + 1 == i && q.2.category == 2))))) : lv_has ls nL (lset lv i v) := by
  refine ⟨h.1, h.2.1, fun q hq => ?_⟩
  have key : q = (i, v) ∨ (q ∈ lv ∧ q.1 ≠ i) := by
    unfold lset at hq
    split at hq
    · obtain ⟨q0, h0, rfl⟩ := List.mem_map.mp hq
      by_cases e : q0.1 = i
      · simp [e]
      · rw [if_neg e]
        exact Or.inr ⟨h0, e⟩
    · next hn =>
      rcases List.mem_append.mp hq with h1 | h1
      · refine Or.inr ⟨h1, fun e => hn ?_⟩
        rw [List.any_eq_true]
        exact ⟨q, h1, by simp [e]⟩
      · exact Or.inl (List.mem_singleton.mp h1)
  rcases key with rfl | ⟨h1, h2⟩
  · exact h.2.2 _ List.mem_cons_self
  · refine h.2.2 q (List.mem_cons_of_mem _ (List.mem_filter.mpr ⟨h1, ?_⟩))
    by_cases e : q.1 + 1 = i
    · simp [h2, (hw q h1).1, (hw q h1).2 e]
    · simp [h2, (hw q h1).1, e]
section VR
variable {p : Program} {l : Launch} {e : Env} {R : Room} {s : State} {m : MethodId} {args : Array Value} {below : List Frame} {meth : Method} {c : Code} {nL : Nat} {D : va_G} {cy : Nat → ClassId} {ad : Nat → Nat → Nat} {G : Nat} {A : Nat → Prop} {cells slots d : Nat} {Q : State → Prop} {cc : ByteArray} {own : String} {pc : Nat} {lv : List (Nat × Value)} {st : List Value} {M : wS}
/-- fewer locals, or in another order, by their places -/
theorem V_loc {lv' : List (Nat × Value)} (ks : List Nat) (hl : lv_pick lv ks = lv') (k : V p l e R s m args below meth c nL D cy ad G A cells slots Q pc lv' st M) : V p l e R s m args below meth c nL D cy ad G A cells slots Q pc lv st M :=
  fun H locs ls h1 h2 h3 => k H locs ls h1 h2 (lv_sub h3 ks hl)
theorem V_iconst (C : CX p s m args c cc nL own D cy ad G A R d cells slots) {n : Int} {v : Int32} (hd : decode cc pc = .ok (.iconst n, 1)) (hv : Int32.ofInt n = v) (k : V p l e R s m args below meth c nL D cy ad G A cells slots Q (pc + 1) lv (.int v :: st) M) : V p l e R s m args below meth c nL D cy ad G A cells slots Q pc lv (st) M :=
  fun H locs ls h1 h2 h3 => lv_iconst C.1 C.2.1 hd hv (k H locs ls h1 h2 h3)
theorem V_bipush (C : CX p s m args c cc nL own D cy ad G A R d cells slots) {n : Int} {v : Int32} (hd : decode cc pc = .ok (.bipush n, 2)) (hv : (Int8.ofInt n).toInt32 = v) (k : V p l e R s m args below meth c nL D cy ad G A cells slots Q (pc + 2) lv (.int v :: st) M) : V p l e R s m args below meth c nL D cy ad G A cells slots Q pc lv (st) M :=
  fun H locs ls h1 h2 h3 => lv_bipush C.1 C.2.1 hd hv (k H locs ls h1 h2 h3)
theorem V_sipush (C : CX p s m args c cc nL own D cy ad G A R d cells slots) {n : Int} {v : Int32} (hd : decode cc pc = .ok (.sipush n, 3)) (hv : (Int16.ofInt n).toInt32 = v) (k : V p l e R s m args below meth c nL D cy ad G A cells slots Q (pc + 3) lv (.int v :: st) M) : V p l e R s m args below meth c nL D cy ad G A cells slots Q pc lv (st) M :=
  fun H locs ls h1 h2 h3 => lv_sipush C.1 C.2.1 hd hv (k H locs ls h1 h2 h3)
theorem V_lconst (C : CX p s m args c cc nL own D cy ad G A R d cells slots) {n : Fin 2} {v : Int64} (hd : decode cc pc = .ok (.lconst n, 1)) (hv : Int64.ofNat (n : Nat) = v) (k : V p l e R s m args below meth c nL D cy ad G A cells slots Q (pc + 1) lv (.long v :: st) M) : V p l e R s m args below meth c nL D cy ad G A cells slots Q pc lv (st) M :=
  fun H locs ls h1 h2 h3 => lv_lconst C.1 C.2.1 hd hv (k H locs ls h1 h2 h3)
theorem V_iload_n (C : CX p s m args c cc nL own D cy ad G A R d cells slots) {n : Fin 4} {i : Nat} {x : Int32} (q : Nat) (hd : decode cc pc = .ok (.iload_n n, 1)) (hi : (n : Nat) = i) (hq : lv[q]? = some (i, .int x)) (k : V p l e R s m args below meth c nL D cy ad G A cells slots Q (pc + 1) lv (.int x :: st) M) : V p l e R s m args below meth c nL D cy ad G A cells slots Q pc lv (st) M :=
  fun H locs ls h1 h2 h3 => lv_iload_n C.1 C.2.1 hd hi (lv_at h3 q hq) (k H locs ls h1 h2 h3)
theorem V_iload (C : CX p s m args c cc nL own D cy ad G A R d cells slots) {i : Nat} {x : Int32} (q : Nat) (hd : decode cc pc = .ok (.iload i, 2)) (hq : lv[q]? = some (i, .int x)) (k : V p l e R s m args below meth c nL D cy ad G A cells slots Q (pc + 2) lv (.int x :: st) M) : V p l e R s m args below meth c nL D cy ad G A cells slots Q pc lv (st) M :=
  fun H locs ls h1 h2 h3 => lv_iload C.1 C.2.1 hd (lv_at h3 q hq) (k H locs ls h1 h2 h3)
theorem V_lload_n (C : CX p s m args c cc nL own D cy ad G A R d cells slots) {n : Fin 4} {i : Nat} {x : Int64} (q : Nat) (hd : decode cc pc = .ok (.lload_n n, 1)) (hi : (n : Nat) = i) (hq : lv[q]? = some (i, .long x)) (k : V p l e R s m args below meth c nL D cy ad G A cells slots Q (pc + 1) lv (.long x :: st) M) : V p l e R s m args below meth c nL D cy ad G A cells slots Q pc lv (st) M :=
  fun H locs ls h1 h2 h3 => lv_lload_n C.1 C.2.1 hd hi (lv_at h3 q hq) (k H locs ls h1 h2 h3)
theorem V_lload (C : CX p s m args c cc nL own D cy ad G A R d cells slots) {i : Nat} {x : Int64} (q : Nat) (hd : decode cc pc = .ok (.lload i, 2)) (hq : lv[q]? = some (i, .long x)) (k : V p l e R s m args below meth c nL D cy ad G A cells slots Q (pc + 2) lv (.long x :: st) M) : V p l e R s m args below meth c nL D cy ad G A cells slots Q pc lv (st) M :=
  fun H locs ls h1 h2 h3 => lv_lload C.1 C.2.1 hd (lv_at h3 q hq) (k H locs ls h1 h2 h3)
theorem V_aload_n (C : CX p s m args c cc nL own D cy ad G A R d cells slots) {n : Fin 4} {i : Nat} {x : Nat} (q : Nat) (hd : decode cc pc = .ok (.aload_n n, 1)) (hi : (n : Nat) = i) (hq : lv[q]? = some (i, .ref x)) (k : V p l e R s m args below meth c nL D cy ad G A cells slots Q (pc + 1) lv (.ref x :: st) M) : V p l e R s m args below meth c nL D cy ad G A cells slots Q pc lv (st) M :=
  fun H locs ls h1 h2 h3 => lv_aload_n C.1 C.2.1 hd hi (lv_at h3 q hq) (k H locs ls h1 h2 h3)
theorem V_aload (C : CX p s m args c cc nL own D cy ad G A R d cells slots) {i : Nat} {x : Nat} (q : Nat) (hd : decode cc pc = .ok (.aload i, 2)) (hq : lv[q]? = some (i, .ref x)) (k : V p l e R s m args below meth c nL D cy ad G A cells slots Q (pc + 2) lv (.ref x :: st) M) : V p l e R s m args below meth c nL D cy ad G A cells slots Q pc lv (st) M :=
  fun H locs ls h1 h2 h3 => lv_aload C.1 C.2.1 hd (lv_at h3 q hq) (k H locs ls h1 h2 h3)
theorem V_iadd (C : CX p s m args c cc nL own D cy ad G A R d cells slots) {x y : Int32} (hd : decode cc pc = .ok (.iadd, 1)) (k : V p l e R s m args below meth c nL D cy ad G A cells slots Q (pc + 1) lv (.int (x + y) :: st) M) : V p l e R s m args below meth c nL D cy ad G A cells slots Q pc lv (.int y :: .int x :: st) M :=
  fun H locs ls h1 h2 h3 => lv_iadd C.1 C.2.1 hd (k H locs ls h1 h2 h3)
theorem V_isub (C : CX p s m args c cc nL own D cy ad G A R d cells slots) {x y : Int32} (hd : decode cc pc = .ok (.isub, 1)) (k : V p l e R s m args below meth c nL D cy ad G A cells slots Q (pc + 1) lv (.int (x - y) :: st) M) : V p l e R s m args below meth c nL D cy ad G A cells slots Q pc lv (.int y :: .int x :: st) M :=
  fun H locs ls h1 h2 h3 => lv_isub C.1 C.2.1 hd (k H locs ls h1 h2 h3)
theorem V_imul (C : CX p s m args c cc nL own D cy ad G A R d cells slots) {x y : Int32} (hd : decode cc pc = .ok (.imul, 1)) (k : V p l e R s m args below meth c nL D cy ad G A cells slots Q (pc + 1) lv (.int (x * y) :: st) M) : V p l e R s m args below meth c nL D cy ad G A cells slots Q pc lv (.int y :: .int x :: st) M :=
  fun H locs ls h1 h2 h3 => lv_imul C.1 C.2.1 hd (k H locs ls h1 h2 h3)
theorem V_iand (C : CX p s m args c cc nL own D cy ad G A R d cells slots) {x y : Int32} (hd : decode cc pc = .ok (.iand, 1)) (k : V p l e R s m args below meth c nL D cy ad G A cells slots Q (pc + 1) lv (.int (x &&& y) :: st) M) : V p l e R s m args below meth c nL D cy ad G A cells slots Q pc lv (.int y :: .int x :: st) M :=
  fun H locs ls h1 h2 h3 => lv_iand C.1 C.2.1 hd (k H locs ls h1 h2 h3)
theorem V_ior (C : CX p s m args c cc nL own D cy ad G A R d cells slots) {x y : Int32} (hd : decode cc pc = .ok (.ior, 1)) (k : V p l e R s m args below meth c nL D cy ad G A cells slots Q (pc + 1) lv (.int (x ||| y) :: st) M) : V p l e R s m args below meth c nL D cy ad G A cells slots Q pc lv (.int y :: .int x :: st) M :=
  fun H locs ls h1 h2 h3 => lv_ior C.1 C.2.1 hd (k H locs ls h1 h2 h3)
theorem V_ixor (C : CX p s m args c cc nL own D cy ad G A R d cells slots) {x y : Int32} (hd : decode cc pc = .ok (.ixor, 1)) (k : V p l e R s m args below meth c nL D cy ad G A cells slots Q (pc + 1) lv (.int (x ^^^ y) :: st) M) : V p l e R s m args below meth c nL D cy ad G A cells slots Q pc lv (.int y :: .int x :: st) M :=
  fun H locs ls h1 h2 h3 => lv_ixor C.1 C.2.1 hd (k H locs ls h1 h2 h3)
theorem V_ladd (C : CX p s m args c cc nL own D cy ad G A R d cells slots) {x y : Int64} (hd : decode cc pc = .ok (.ladd, 1)) (k : V p l e R s m args below meth c nL D cy ad G A cells slots Q (pc + 1) lv (.long (x + y) :: st) M) : V p l e R s m args below meth c nL D cy ad G A cells slots Q pc lv (.long y :: .long x :: st) M :=
  fun H locs ls h1 h2 h3 => lv_ladd C.1 C.2.1 hd (k H locs ls h1 h2 h3)
theorem V_lsub (C : CX p s m args c cc nL own D cy ad G A R d cells slots) {x y : Int64} (hd : decode cc pc = .ok (.lsub, 1)) (k : V p l e R s m args below meth c nL D cy ad G A cells slots Q (pc + 1) lv (.long (x - y) :: st) M) : V p l e R s m args below meth c nL D cy ad G A cells slots Q pc lv (.long y :: .long x :: st) M :=
  fun H locs ls h1 h2 h3 => lv_lsub C.1 C.2.1 hd (k H locs ls h1 h2 h3)
theorem V_lmul (C : CX p s m args c cc nL own D cy ad G A R d cells slots) {x y : Int64} (hd : decode cc pc = .ok (.lmul, 1)) (k : V p l e R s m args below meth c nL D cy ad G A cells slots Q (pc + 1) lv (.long (x * y) :: st) M) : V p l e R s m args below meth c nL D cy ad G A cells slots Q pc lv (.long y :: .long x :: st) M :=
  fun H locs ls h1 h2 h3 => lv_lmul C.1 C.2.1 hd (k H locs ls h1 h2 h3)
theorem V_idiv (C : CX p s m args c cc nL own D cy ad G A R d cells slots) {x y : Int32} (hd : decode cc pc = .ok (.idiv, 1)) (hne : ¬ y = 0) (k : V p l e R s m args below meth c nL D cy ad G A cells slots Q (pc + 1) lv (.int (x / y) :: st) M) : V p l e R s m args below meth c nL D cy ad G A cells slots Q pc lv (.int y :: .int x :: st) M :=
  fun H locs ls h1 h2 h3 => lv_idiv C.1 C.2.1 hd hne (k H locs ls h1 h2 h3)
theorem V_irem (C : CX p s m args c cc nL own D cy ad G A R d cells slots) {x y : Int32} (hd : decode cc pc = .ok (.irem, 1)) (hne : ¬ y = 0) (k : V p l e R s m args below meth c nL D cy ad G A cells slots Q (pc + 1) lv (.int (x - x / y * y) :: st) M) : V p l e R s m args below meth c nL D cy ad G A cells slots Q pc lv (.int y :: .int x :: st) M :=
  fun H locs ls h1 h2 h3 => lv_irem C.1 C.2.1 hd hne (k H locs ls h1 h2 h3)
theorem V_ldiv (C : CX p s m args c cc nL own D cy ad G A R d cells slots) {x y : Int64} (hd : decode cc pc = .ok (.ldiv, 1)) (hne : ¬ y = 0) (k : V p l e R s m args below meth c nL D cy ad G A cells slots Q (pc + 1) lv (.long (x / y) :: st) M) : V p l e R s m args below meth c nL D cy ad G A cells slots Q pc lv (.long y :: .long x :: st) M :=
  fun H locs ls h1 h2 h3 => lv_ldiv C.1 C.2.1 hd hne (k H locs ls h1 h2 h3)
theorem V_lrem (C : CX p s m args c cc nL own D cy ad G A R d cells slots) {x y : Int64} (hd : decode cc pc = .ok (.lrem, 1)) (hne : ¬ y = 0) (k : V p l e R s m args below meth c nL D cy ad G A cells slots Q (pc + 1) lv (.long (x - x / y * y) :: st) M) : V p l e R s m args below meth c nL D cy ad G A cells slots Q pc lv (.long y :: .long x :: st) M :=
  fun H locs ls h1 h2 h3 => lv_lrem C.1 C.2.1 hd hne (k H locs ls h1 h2 h3)
theorem V_ineg (C : CX p s m args c cc nL own D cy ad G A R d cells slots) {x : Int32} (hd : decode cc pc = .ok (.ineg, 1)) (k : V p l e R s m args below meth c nL D cy ad G A cells slots Q (pc + 1) lv (.int (-x) :: st) M) : V p l e R s m args below meth c nL D cy ad G A cells slots Q pc lv (.int x :: st) M :=
  fun H locs ls h1 h2 h3 => lv_ineg C.1 C.2.1 hd (k H locs ls h1 h2 h3)
theorem V_ishl (C : CX p s m args c cc nL own D cy ad G A R d cells slots) {x y : Int32} (hd : decode cc pc = .ok (.ishl, 1)) (k : V p l e R s m args below meth c nL D cy ad G A cells slots Q (pc + 1) lv (.int (x <<< (y &&& 31)) :: st) M) : V p l e R s m args below meth c nL D cy ad G A cells slots Q pc lv (.int y :: .int x :: st) M :=
  fun H locs ls h1 h2 h3 => lv_ishl C.1 C.2.1 hd (k H locs ls h1 h2 h3)
theorem V_ishr (C : CX p s m args c cc nL own D cy ad G A R d cells slots) {x y : Int32} (hd : decode cc pc = .ok (.ishr, 1)) (k : V p l e R s m args below meth c nL D cy ad G A cells slots Q (pc + 1) lv (.int (x >>> (y &&& 31)) :: st) M) : V p l e R s m args below meth c nL D cy ad G A cells slots Q pc lv (.int y :: .int x :: st) M :=
  fun H locs ls h1 h2 h3 => lv_ishr C.1 C.2.1 hd (k H locs ls h1 h2 h3)
theorem V_iushr (C : CX p s m args c cc nL own D cy ad G A R d cells slots) {x y : Int32} (hd : decode cc pc = .ok (.iushr, 1)) (k : V p l e R s m args below meth c nL D cy ad G A cells slots Q (pc + 1) lv (.int ((x.toUInt32 >>> (y.toUInt32 &&& Int32.toUInt32 31)).toInt32) :: st) M) : V p l e R s m args below meth c nL D cy ad G A cells slots Q pc lv (.int y :: .int x :: st) M :=
  fun H locs ls h1 h2 h3 => lv_iushr C.1 C.2.1 hd rfl (k H locs ls h1 h2 h3)
theorem V_i2l (C : CX p s m args c cc nL own D cy ad G A R d cells slots) {x : Int32} (hd : decode cc pc = .ok (.i2l, 1)) (k : V p l e R s m args below meth c nL D cy ad G A cells slots Q (pc + 1) lv (.long x.toInt64 :: st) M) : V p l e R s m args below meth c nL D cy ad G A cells slots Q pc lv (.int x :: st) M :=
  fun H locs ls h1 h2 h3 => lv_i2l C.1 C.2.1 hd rfl (k H locs ls h1 h2 h3)
theorem V_l2i (C : CX p s m args c cc nL own D cy ad G A R d cells slots) {x : Int64} (hd : decode cc pc = .ok (.l2i, 1)) (k : V p l e R s m args below meth c nL D cy ad G A cells slots Q (pc + 1) lv (.int x.toInt32 :: st) M) : V p l e R s m args below meth c nL D cy ad G A cells slots Q pc lv (.long x :: st) M :=
  fun H locs ls h1 h2 h3 => lv_l2i C.1 C.2.1 hd rfl (k H locs ls h1 h2 h3)
theorem V_i2b (C : CX p s m args c cc nL own D cy ad G A R d cells slots) {x : Int32} (hd : decode cc pc = .ok (.i2b, 1)) (k : V p l e R s m args below meth c nL D cy ad G A cells slots Q (pc + 1) lv (.int x.toInt8.toInt32 :: st) M) : V p l e R s m args below meth c nL D cy ad G A cells slots Q pc lv (.int x :: st) M :=
  fun H locs ls h1 h2 h3 => lv_i2b C.1 C.2.1 hd rfl (k H locs ls h1 h2 h3)
theorem V_i2s (C : CX p s m args c cc nL own D cy ad G A R d cells slots) {x : Int32} (hd : decode cc pc = .ok (.i2s, 1)) (k : V p l e R s m args below meth c nL D cy ad G A cells slots Q (pc + 1) lv (.int x.toInt16.toInt32 :: st) M) : V p l e R s m args below meth c nL D cy ad G A cells slots Q pc lv (.int x :: st) M :=
  fun H locs ls h1 h2 h3 => lv_i2s C.1 C.2.1 hd rfl (k H locs ls h1 h2 h3)
theorem V_i2c (C : CX p s m args c cc nL own D cy ad G A R d cells slots) {x : Int32} (hd : decode cc pc = .ok (.i2c, 1)) (k : V p l e R s m args below meth c nL D cy ad G A cells slots Q (pc + 1) lv (.int (x.toUInt32 % 65536).toInt32 :: st) M) : V p l e R s m args below meth c nL D cy ad G A cells slots Q pc lv (.int x :: st) M :=
  fun H locs ls h1 h2 h3 => lv_i2c C.1 C.2.1 hd rfl (k H locs ls h1 h2 h3)
theorem V_lcmp (C : CX p s m args c cc nL own D cy ad G A R d cells slots) {x y : Int64} (hd : decode cc pc = .ok (.lcmp, 1)) (k : V p l e R s m args below meth c nL D cy ad G A cells slots Q (pc + 1) lv (.int (lg_cmp x y) :: st) M) : V p l e R s m args below meth c nL D cy ad G A cells slots Q pc lv (.long y :: .long x :: st) M :=
  fun H locs ls h1 h2 h3 => W.lcmp C.1 C.2.1 hd (k H locs ls h1 h2 h3)
theorem V_dup (C : CX p s m args c cc nL own D cy ad G A R d cells slots) {x : Value} (hd : decode cc pc = .ok (.dup, 1)) (hc : x.category = 1) (k : V p l e R s m args below meth c nL D cy ad G A cells slots Q (pc + 1) lv (x :: x :: st) M) : V p l e R s m args below meth c nL D cy ad G A cells slots Q pc lv (x :: st) M :=
  fun H locs ls h1 h2 h3 => lv_dup C.1 C.2.1 hd hc (k H locs ls h1 h2 h3)
theorem V_pop (C : CX p s m args c cc nL own D cy ad G A R d cells slots) {x : Value} (hd : decode cc pc = .ok (.pop, 1)) (hc : x.category = 1) (k : V p l e R s m args below meth c nL D cy ad G A cells slots Q (pc + 1) lv (st) M) : V p l e R s m args below meth c nL D cy ad G A cells slots Q pc lv (x :: st) M :=
  fun H locs ls h1 h2 h3 => lv_pop C.1 C.2.1 hd hc (k H locs ls h1 h2 h3)
theorem V_dup2 (C : CX p s m args c cc nL own D cy ad G A R d cells slots) {x y : Value} (hd : decode cc pc = .ok (.dup2, 1)) (hc : x.category = 1) (hc2 : y.category = 1) (k : V p l e R s m args below meth c nL D cy ad G A cells slots Q (pc + 1) lv (x :: y :: x :: y :: st) M) : V p l e R s m args below meth c nL D cy ad G A cells slots Q pc lv (x :: y :: st) M :=
  fun H locs ls h1 h2 h3 => lv_dup2_11 C.1 C.2.1 hd hc hc2 (k H locs ls h1 h2 h3)
theorem V_ldc (C : CX p s m args c cc nL own D cy ad G A R d cells slots) {index : Nat} {v : Int32} (hd : decode cc pc = .ok (.ldc index, 2)) (hw : Cond.constant own index v ∈ lw_good) (k : V p l e R s m args below meth c nL D cy ad G A cells slots Q (pc + 2) lv (.int v :: st) M) : V p l e R s m args below meth c nL D cy ad G A cells slots Q pc lv (st) M :=
  fun H locs ls h1 h2 h3 => lv_ldc C.1 C.2.1 C.2.2.2.1 (C.2.2.2.2.1 _ hw) hd (k H locs ls h1 h2 h3)
theorem V_ldc2 (C : CX p s m args c cc nL own D cy ad G A R d cells slots) {index : Nat} {v : Int64} (hd : decode cc pc = .ok (.ldc2_w index, 3)) (hw : Cond.constantLong own index v ∈ lw_good) (k : V p l e R s m args below meth c nL D cy ad G A cells slots Q (pc + 3) lv (.long v :: st) M) : V p l e R s m args below meth c nL D cy ad G A cells slots Q pc lv (st) M :=
  fun H locs ls h1 h2 h3 => lv_ldc2 C.1 C.2.1 C.2.2.2.1 (C.2.2.2.2.1 _ hw) hd (k H locs ls h1 h2 h3)
theorem V_icmp_eq (C : CX p s m args c cc nL own D cy ad G A R d cells slots) {x y : Int32} {off : Int} {tgt : Nat} (hd : decode cc pc = .ok (.if_icmp .eq off, 3)) (ht : (pc : Int) + off = (tgt : Int)) (kt : x = y → V p l e R s m args below meth c nL D cy ad G A cells slots Q tgt lv st M) (kf : ¬ x = y → V p l e R s m args below meth c nL D cy ad G A cells slots Q (pc + 3) lv st M) : V p l e R s m args below meth c nL D cy ad G A cells slots Q pc lv (.int y :: .int x :: st) M :=
  fun H locs ls h1 h2 h3 => lv_icmp_eq C.1 C.2.1 hd ht (fun h => kt h H locs ls h1 h2 h3) (fun h => kf h H locs ls h1 h2 h3)
theorem V_if_eq (C : CX p s m args c cc nL own D cy ad G A R d cells slots) {x : Int32} {off : Int} {tgt : Nat} (hd : decode cc pc = .ok (.ifCond .eq off, 3)) (ht : (pc : Int) + off = (tgt : Int)) (kt : x = 0 → V p l e R s m args below meth c nL D cy ad G A cells slots Q tgt lv st M) (kf : ¬ x = 0 → V p l e R s m args below meth c nL D cy ad G A cells slots Q (pc + 3) lv st M) : V p l e R s m args below meth c nL D cy ad G A cells slots Q pc lv (.int x :: st) M :=
  fun H locs ls h1 h2 h3 => lv_if_eq C.1 C.2.1 hd ht (fun h => kt h H locs ls h1 h2 h3) (fun h => kf h H locs ls h1 h2 h3)
theorem V_icmp_ne (C : CX p s m args c cc nL own D cy ad G A R d cells slots) {x y : Int32} {off : Int} {tgt : Nat} (hd : decode cc pc = .ok (.if_icmp .ne off, 3)) (ht : (pc : Int) + off = (tgt : Int)) (kt : ¬ x = y → V p l e R s m args below meth c nL D cy ad G A cells slots Q tgt lv st M) (kf : x = y → V p l e R s m args below meth c nL D cy ad G A cells slots Q (pc + 3) lv st M) : V p l e R s m args below meth c nL D cy ad G A cells slots Q pc lv (.int y :: .int x :: st) M :=
  fun H locs ls h1 h2 h3 => lv_icmp_ne C.1 C.2.1 hd ht (fun h => kt h H locs ls h1 h2 h3) (fun h => kf h H locs ls h1 h2 h3)
theorem V_if_ne (C : CX p s m args c cc nL own D cy ad G A R d cells slots) {x : Int32} {off : Int} {tgt : Nat} (hd : decode cc pc = .ok (.ifCond .ne off, 3)) (ht : (pc : Int) + off = (tgt : Int)) (kt : ¬ x = 0 → V p l e R s m args below meth c nL D cy ad G A cells slots Q tgt lv st M) (kf : x = 0 → V p l e R s m args below meth c nL D cy ad G A cells slots Q (pc + 3) lv st M) : V p l e R s m args below meth c nL D cy ad G A cells slots Q pc lv (.int x :: st) M :=
  fun H locs ls h1 h2 h3 => lv_if_ne C.1 C.2.1 hd ht (fun h => kt h H locs ls h1 h2 h3) (fun h => kf h H locs ls h1 h2 h3)
theorem V_icmp_lt (C : CX p s m args c cc nL own D cy ad G A R d cells slots) {x y : Int32} {off : Int} {tgt : Nat} (hd : decode cc pc = .ok (.if_icmp .lt off, 3)) (ht : (pc : Int) + off = (tgt : Int)) (kt : x < y → V p l e R s m args below meth c nL D cy ad G A cells slots Q tgt lv st M) (kf : ¬ x < y → V p l e R s m args below meth c nL D cy ad G A cells slots Q (pc + 3) lv st M) : V p l e R s m args below meth c nL D cy ad G A cells slots Q pc lv (.int y :: .int x :: st) M :=
  fun H locs ls h1 h2 h3 => lv_icmp_lt C.1 C.2.1 hd ht (fun h => kt h H locs ls h1 h2 h3) (fun h => kf h H locs ls h1 h2 h3)
theorem V_if_lt (C : CX p s m args c cc nL own D cy ad G A R d cells slots) {x : Int32} {off : Int} {tgt : Nat} (hd : decode cc pc = .ok (.ifCond .lt off, 3)) (ht : (pc : Int) + off = (tgt : Int)) (kt : x < 0 → V p l e R s m args below meth c nL D cy ad G A cells slots Q tgt lv st M) (kf : ¬ x < 0 → V p l e R s m args below meth c nL D cy ad G A cells slots Q (pc + 3) lv st M) : V p l e R s m args below meth c nL D cy ad G A cells slots Q pc lv (.int x :: st) M :=
  fun H locs ls h1 h2 h3 => lv_if_lt C.1 C.2.1 hd ht (fun h => kt h H locs ls h1 h2 h3) (fun h => kf h H locs ls h1 h2 h3)
theorem V_icmp_ge (C : CX p s m args c cc nL own D cy ad G A R d cells slots) {x y : Int32} {off : Int} {tgt : Nat} (hd : decode cc pc = .ok (.if_icmp .ge off, 3)) (ht : (pc : Int) + off = (tgt : Int)) (kt : y ≤ x → V p l e R s m args below meth c nL D cy ad G A cells slots Q tgt lv st M) (kf : ¬ y ≤ x → V p l e R s m args below meth c nL D cy ad G A cells slots Q (pc + 3) lv st M) : V p l e R s m args below meth c nL D cy ad G A cells slots Q pc lv (.int y :: .int x :: st) M :=
  fun H locs ls h1 h2 h3 => lv_icmp_ge C.1 C.2.1 hd ht (fun h => kt h H locs ls h1 h2 h3) (fun h => kf h H locs ls h1 h2 h3)
theorem V_if_ge (C : CX p s m args c cc nL own D cy ad G A R d cells slots) {x : Int32} {off : Int} {tgt : Nat} (hd : decode cc pc = .ok (.ifCond .ge off, 3)) (ht : (pc : Int) + off = (tgt : Int)) (kt : 0 ≤ x → V p l e R s m args below meth c nL D cy ad G A cells slots Q tgt lv st M) (kf : ¬ 0 ≤ x → V p l e R s m args below meth c nL D cy ad G A cells slots Q (pc + 3) lv st M) : V p l e R s m args below meth c nL D cy ad G A cells slots Q pc lv (.int x :: st) M :=
  fun H locs ls h1 h2 h3 => lv_if_ge C.1 C.2.1 hd ht (fun h => kt h H locs ls h1 h2 h3) (fun h => kf h H locs ls h1 h2 h3)
theorem V_icmp_gt (C : CX p s m args c cc nL own D cy ad G A R d cells slots) {x y : Int32} {off : Int} {tgt : Nat} (hd : decode cc pc = .ok (.if_icmp .gt off, 3)) (ht : (pc : Int) + off = (tgt : Int)) (kt : y < x → V p l e R s m args below meth c nL D cy ad G A cells slots Q tgt lv st M) (kf : ¬ y < x → V p l e R s m args below meth c nL D cy ad G A cells slots Q (pc + 3) lv st M) : V p l e R s m args below meth c nL D cy ad G A cells slots Q pc lv (.int y :: .int x :: st) M :=
  fun H locs ls h1 h2 h3 => lv_icmp_gt C.1 C.2.1 hd ht (fun h => kt h H locs ls h1 h2 h3) (fun h => kf h H locs ls h1 h2 h3)
theorem V_if_gt (C : CX p s m args c cc nL own D cy ad G A R d cells slots) {x : Int32} {off : Int} {tgt : Nat} (hd : decode cc pc = .ok (.ifCond .gt off, 3)) (ht : (pc : Int) + off = (tgt : Int)) (kt : 0 < x → V p l e R s m args below meth c nL D cy ad G A cells slots Q tgt lv st M) (kf : ¬ 0 < x → V p l e R s m args below meth c nL D cy ad G A cells slots Q (pc + 3) lv st M) : V p l e R s m args below meth c nL D cy ad G A cells slots Q pc lv (.int x :: st) M :=
  fun H locs ls h1 h2 h3 => lv_if_gt C.1 C.2.1 hd ht (fun h => kt h H locs ls h1 h2 h3) (fun h => kf h H locs ls h1 h2 h3)
theorem V_icmp_le (C : CX p s m args c cc nL own D cy ad G A R d cells slots) {x y : Int32} {off : Int} {tgt : Nat} (hd : decode cc pc = .ok (.if_icmp .le off, 3)) (ht : (pc : Int) + off = (tgt : Int)) (kt : x ≤ y → V p l e R s m args below meth c nL D cy ad G A cells slots Q tgt lv st M) (kf : ¬ x ≤ y → V p l e R s m args below meth c nL D cy ad G A cells slots Q (pc + 3) lv st M) : V p l e R s m args below meth c nL D cy ad G A cells slots Q pc lv (.int y :: .int x :: st) M :=
  fun H locs ls h1 h2 h3 => lv_icmp_le C.1 C.2.1 hd ht (fun h => kt h H locs ls h1 h2 h3) (fun h => kf h H locs ls h1 h2 h3)
theorem V_if_le (C : CX p s m args c cc nL own D cy ad G A R d cells slots) {x : Int32} {off : Int} {tgt : Nat} (hd : decode cc pc = .ok (.ifCond .le off, 3)) (ht : (pc : Int) + off = (tgt : Int)) (kt : x ≤ 0 → V p l e R s m args below meth c nL D cy ad G A cells slots Q tgt lv st M) (kf : ¬ x ≤ 0 → V p l e R s m args below meth c nL D cy ad G A cells slots Q (pc + 3) lv st M) : V p l e R s m args below meth c nL D cy ad G A cells slots Q pc lv (.int x :: st) M :=
  fun H locs ls h1 h2 h3 => lv_if_le C.1 C.2.1 hd ht (fun h => kt h H locs ls h1 h2 h3) (fun h => kf h H locs ls h1 h2 h3)
theorem V_goto (C : CX p s m args c cc nL own D cy ad G A R d cells slots) {off : Int} {tgt : Nat} (hd : decode cc pc = .ok (.goto off, 3)) (ht : (pc : Int) + off = (tgt : Int)) (k : V p l e R s m args below meth c nL D cy ad G A cells slots Q tgt lv st M) : V p l e R s m args below meth c nL D cy ad G A cells slots Q pc lv st M :=
  fun H locs ls h1 h2 h3 => lv_goto C.1 C.2.1 hd ht (k H locs ls h1 h2 h3)
theorem V_tblOut (C : CX p s m args c cc nL own D cy ad G A R d cells slots) {dflt lo hi : Int} {offs : Array Int} {len : Nat} {x : Int32} {tgt : Nat} (hd : decode cc pc = .ok (.tableswitch dflt lo hi offs, len)) (h : x.toInt < lo ∨ hi < x.toInt) (ht : (pc : Int) + dflt = (tgt : Int)) (k : V p l e R s m args below meth c nL D cy ad G A cells slots Q tgt lv st M) : V p l e R s m args below meth c nL D cy ad G A cells slots Q pc lv (.int x :: st) M :=
  fun H locs ls h1 h2 h3 => lv_tableOut C.1 C.2.1 hd h ht (k H locs ls h1 h2 h3)
theorem V_tblIn (C : CX p s m args c cc nL own D cy ad G A R d cells slots) {dflt lo hi : Int} {offs : Array Int} {len : Nat} {x : Int32} {off : Int} {tgt : Nat} (hd : decode cc pc = .ok (.tableswitch dflt lo hi offs, len)) (h0 : ¬ x.toInt < lo) (hh : ¬ hi < x.toInt) (ho : offs[(x.toInt - lo).toNat]? = some off) (ht : (pc : Int) + off = (tgt : Int)) (k : V p l e R s m args below meth c nL D cy ad G A cells slots Q tgt lv st M) : V p l e R s m args below meth c nL D cy ad G A cells slots Q pc lv (.int x :: st) M :=
  fun H locs ls h1 h2 h3 => lv_tableIn C.1 C.2.1 hd h0 hh ho ht (k H locs ls h1 h2 h3)
theorem V_istore_n (C : CX p s m args c cc nL own D cy ad G A R d cells slots) {n : Fin 4} {i : Nat} {x : Int32} {lv' : List (Nat × Value)} (hd : decode cc pc = .ok (.istore_n n, 1)) (hi : (n : Nat) = i) (hn : i < nL) (hw : ∀ q ∈ lv, q.1 + 1 = i → q.2.category = 1) (hl : lset lv i (.int x) = lv') (k : V p l e R s m args below meth c nL D cy ad G A cells slots Q (pc + 1) lv' st M) : V p l e R s m args below meth c nL D cy ad G A cells slots Q pc lv (.int x :: st) M :=
  fun H locs ls h1 h2 h3 => lv_istore_n C.1 C.2.1 hd hi h3 hn rfl (fun ls' h4 => k H locs ls' h1 h2 (hl ▸ lset_has hw h4))
theorem V_istore (C : CX p s m args c cc nL own D cy ad G A R d cells slots) {i : Nat} {x : Int32} {lv' : List (Nat × Value)} (hd : decode cc pc = .ok (.istore i, 2)) (hn : i < nL) (hw : ∀ q ∈ lv, q.1 + 1 = i → q.2.category = 1) (hl : lset lv i (.int x) = lv') (k : V p l e R s m args below meth c nL D cy ad G A cells slots Q (pc + 2) lv' st M) : V p l e R s m args below meth c nL D cy ad G A cells slots Q pc lv (.int x :: st) M :=
  fun H locs ls h1 h2 h3 => lv_istore C.1 C.2.1 hd h3 hn rfl (fun ls' h4 => k H locs ls' h1 h2 (hl ▸ lset_has hw h4))
theorem V_astore_n (C : CX p s m args c cc nL own D cy ad G A R d cells slots) {n : Fin 4} {i : Nat} {x : Nat} {lv' : List (Nat × Value)} (hd : decode cc pc = .ok (.astore_n n, 1)) (hi : (n : Nat) = i) (hn : i < nL) (hw : ∀ q ∈ lv, q.1 + 1 = i → q.2.category = 1) (hl : lset lv i (.ref x) = lv') (k : V p l e R s m args below meth c nL D cy ad G A cells slots Q (pc + 1) lv' st M) : V p l e R s m args below meth c nL D cy ad G A cells slots Q pc lv (.ref x :: st) M :=
  fun H locs ls h1 h2 h3 => lv_astore_n C.1 C.2.1 hd hi h3 hn rfl (fun ls' h4 => k H locs ls' h1 h2 (hl ▸ lset_has hw h4))
theorem V_astore (C : CX p s m args c cc nL own D cy ad G A R d cells slots) {i : Nat} {x : Nat} {lv' : List (Nat × Value)} (hd : decode cc pc = .ok (.astore i, 2)) (hn : i < nL) (hw : ∀ q ∈ lv, q.1 + 1 = i → q.2.category = 1) (hl : lset lv i (.ref x) = lv') (k : V p l e R s m args below meth c nL D cy ad G A cells slots Q (pc + 2) lv' st M) : V p l e R s m args below meth c nL D cy ad G A cells slots Q pc lv (.ref x :: st) M :=
  fun H locs ls h1 h2 h3 => lv_astore C.1 C.2.1 hd h3 hn rfl (fun ls' h4 => k H locs ls' h1 h2 (hl ▸ lset_has hw h4))
theorem V_lstore_n (C : CX p s m args c cc nL own D cy ad G A R d cells slots) {n : Fin 4} {i : Nat} {x : Int64} {lv' : List (Nat × Value)} (hd : decode cc pc = .ok (.lstore_n n, 1)) (hi : (n : Nat) = i) (hn : i + 1 < nL) (hw : ∀ q ∈ lv, q.1 ≠ i + 1 ∧ (q.1 + 1 = i → q.2.category = 1)) (hl : lset lv i (.long x) = lv') (k : V p l e R s m args below meth c nL D cy ad G A cells slots Q (pc + 1) lv' st M) : V p l e R s m args below meth c nL D cy ad G A cells slots Q pc lv (.long x :: st) M :=
  fun H locs ls h1 h2 h3 => lv_lstore_n C.1 C.2.1 hd hi h3 hn rfl (fun ls' h4 => k H locs ls' h1 h2 (hl ▸ lset_hasL hw h4))
theorem V_lstore (C : CX p s m args c cc nL own D cy ad G A R d cells slots) {i : Nat} {x : Int64} {lv' : List (Nat × Value)} (hd : decode cc pc = .ok (.lstore i, 2)) (hn : i + 1 < nL) (hw : ∀ q ∈ lv, q.1 ≠ i + 1 ∧ (q.1 + 1 = i → q.2.category = 1)) (hl : lset lv i (.long x) = lv') (k : V p l e R s m args below meth c nL D cy ad G A cells slots Q (pc + 2) lv' st M) : V p l e R s m args below meth c nL D cy ad G A cells slots Q pc lv (.long x :: st) M :=
  fun H locs ls h1 h2 h3 => lv_lstore C.1 C.2.1 hd h3 hn rfl (fun ls' h4 => k H locs ls' h1 h2 (hl ▸ lset_hasL hw h4))
theorem V_iinc (C : CX p s m args c cc nL own D cy ad G A R d cells slots) {i : Nat} {n : Int} {x v : Int32} (q : Nat) {lv' : List (Nat × Value)} (hd : decode cc pc = .ok (.iinc i n, 3)) (hq : lv[q]? = some (i, .int x)) (hn : i < nL) (hw : ∀ q ∈ lv, q.1 + 1 = i → q.2.category = 1) (hv : x + Int32.ofInt n = v) (hl : lset lv i (.int v) = lv') (k : V p l e R s m args below meth c nL D cy ad G A cells slots Q (pc + 3) lv' st M) : V p l e R s m args below meth c nL D cy ad G A cells slots Q pc lv st M :=
  fun H locs ls h1 h2 h3 => lv_iinc C.1 C.2.1 hd h3 hq hv hn rfl (fun ls' h4 => k H locs ls' h1 h2 (hl ▸ lset_has hw h4))
theorem V_get (C : CX p s m args c cc nL own D cy ad G A R d cells slots) {g i ci index N k : Nat} {Cn : String} {T : u_T} {fs : List Value} {v : Value} (hg : wG G g i) (hF : wF cy ad M.2 g i (M.1 g i) = .inr (ci, fs)) (hc : classes[ci]? = some (Cn, T, N)) (hk : k < N) (hin : ∀ w ∈ u_ws Cn T N, w ∈ lw_good) (hT : (T k).1 = Cn) (hl : Cond.fieldLink own index Cn (T k).2.1 (T k).2.2.1 ∈ lw_good) (hv : fs[k]? = some v) (hd : decode cc pc = .ok (.getfield index, 3)) (kk : V p l e R s m args below meth c nL D cy ad G A cells slots Q (pc + 3) lv (v :: st) M) : V p l e R s m args below meth c nL D cy ad G A cells slots Q pc lv (.ref (ad g i) :: st) M := by
  intro H locs ls h1 h2 h3
  obtain ⟨q, hq⟩ := wL_at hg
  exact va_get C.1 C.2.1 C.2.2.2.2.1 hin C.2.2.2.1 C.2.2.2.2.2.1.1 h1 q ((wL_get hq).trans (by rw [hF])) hc k hk (C.2.2.2.2.1 _ hl) (by rw [hT]; exact fun _ h => h) hv hd (kk H locs ls h1 h2 h3)
theorem V_getN (C : CX p s m args c cc nL own D cy ad G A R d cells slots) {g i ci index N k : Nat} {Cn host : String} {T : u_T} {fs : List Value} {v : Value} (hg : wG G g i) (hF : wF cy ad M.2 g i (M.1 g i) = .inr (ci, fs)) (hc : classes[ci]? = some (Cn, T, N)) (hk : k < N) (hin : ∀ w ∈ u_ws Cn T N, w ∈ lw_good) (hT : (T k).1 = Cn) (hl : Cond.fieldLinkNest own index Cn (T k).2.1 (T k).2.2.1 host ∈ lw_tbl) (hv : fs[k]? = some v) (hd : decode cc pc = .ok (.getfield index, 3)) (kk : V p l e R s m args below meth c nL D cy ad G A cells slots Q (pc + 3) lv (v :: st) M) : V p l e R s m args below meth c nL D cy ad G A cells slots Q pc lv (.ref (ad g i) :: st) M := by
  intro H locs ls h1 h2 h3
  obtain ⟨q, hq⟩ := wL_at hg
  exact va_getN C.1 C.2.1 C.2.2.2.2.1 hin C.2.2.2.1 C.2.2.2.2.2.1.1 h1 q ((wL_get hq).trans (by rw [hF])) hc k hk (va_Nw.use rfl (C.2.2.2.2.2.1.2.1.1 _ _ _ _ _ _ hl)) (by rw [hT]; exact fun _ h => h) hv hd (kk H locs ls h1 h2 h3)
theorem V_put (C : CX p s m args c cc nL own D cy ad G A R d cells slots) {g i ci index N k : Nat} {Cn host : String} {T : u_T} {fs : List Value} {v : Value} {ty : FieldType} {M' : wS} (hg : wG G g i) (hF : wF cy ad M.2 g i (M.1 g i) = .inr (ci, fs)) (hc : classes[ci]? = some (Cn, T, N)) (hk : k < N) (hin : ∀ w ∈ u_ws Cn T N, w ∈ lw_good) (hT : (T k).1 = Cn) (ty0 : Nat → FieldType) (hty : ∀ k, k < N → parseFieldDescriptor (T k).2.2.1 = some (ty0 k)) (hnm : ∀ a, a < N → ∀ b, b < N → a ≠ b → (T a).2.1 ≠ (T b).2.1) (hfin : (T k).2.2.2 = false) (hdt : parseFieldDescriptor (T k).2.2.1 = some ty) (hn : narrow ty v = v) (hfit : fits ty v = true) (hlen : k < fs.length) (hl : Cond.fieldLink own index Cn (T k).2.1 (T k).2.2.1 ∈ lw_good)
    (hM : wF cy ad M'.2 g i (M'.1 g i) = .inr (ci, fs.set k v)) (ho : ∀ g' i', wG G g' i' → ¬ (g' = g ∧ i' = i) → wF cy ad M'.2 g' i' (M'.1 g' i') = wF cy ad M.2 g' i' (M.1 g' i')) (hd : decode cc pc = .ok (.putfield index, 3)) (kk : V p l e R s m args below meth c nL D cy ad G A cells slots Q (pc + 3) lv st M') : V p l e R s m args below meth c nL D cy ad G A cells slots Q pc lv (v :: .ref (ad g i) :: st) M := by
  intro H locs ls h1 h2 h3
  obtain ⟨q, hq⟩ := wL_at hg
  refine va_put C.1 C.2.1 C.2.2.2.2.1 hin ty0 hty hnm C.2.2.2.1 C.2.2.2.2.2.1.1 h1 (wD_of C.2.2.2.2.2.2.1 C.2.2.2.2.2.2.2.1 M) h2 q ((wL_get hq).trans (by rw [hF])) hc k hk (C.2.2.2.2.1 _ hl) (by rw [hT]; exact fun _ h => h) hfin hdt hn hfit hlen hd (fun H1 locs1 g1 _ g3 => ?_)
  refine kk H1 locs1 ls ?_ g3 h3
  rw [← hM, wL_set (wD_of (A := A) C.2.2.2.2.2.2.1 C.2.2.2.2.2.2.2.1 M) hq ho] at g1
  exact g1
theorem V_putN (C : CX p s m args c cc nL own D cy ad G A R d cells slots) {g i ci index N k : Nat} {Cn host : String} {T : u_T} {fs : List Value} {v : Value} {ty : FieldType} {M' : wS} (hg : wG G g i) (hF : wF cy ad M.2 g i (M.1 g i) = .inr (ci, fs)) (hc : classes[ci]? = some (Cn, T, N)) (hk : k < N) (hin : ∀ w ∈ u_ws Cn T N, w ∈ lw_good) (hT : (T k).1 = Cn) (ty0 : Nat → FieldType) (hty : ∀ k, k < N → parseFieldDescriptor (T k).2.2.1 = some (ty0 k)) (hnm : ∀ a, a < N → ∀ b, b < N → a ≠ b → (T a).2.1 ≠ (T b).2.1) (hfin : (T k).2.2.2 = false) (hdt : parseFieldDescriptor (T k).2.2.1 = some ty) (hn : narrow ty v = v) (hfit : fits ty v = true) (hlen : k < fs.length) (hl : Cond.fieldLinkNest own index Cn (T k).2.1 (T k).2.2.1 host ∈ lw_tbl)
    (hM : wF cy ad M'.2 g i (M'.1 g i) = .inr (ci, fs.set k v)) (ho : ∀ g' i', wG G g' i' → ¬ (g' = g ∧ i' = i) → wF cy ad M'.2 g' i' (M'.1 g' i') = wF cy ad M.2 g' i' (M.1 g' i')) (hd : decode cc pc = .ok (.putfield index, 3)) (kk : V p l e R s m args below meth c nL D cy ad G A cells slots Q (pc + 3) lv st M') : V p l e R s m args below meth c nL D cy ad G A cells slots Q pc lv (v :: .ref (ad g i) :: st) M := by
  intro H locs ls h1 h2 h3
  obtain ⟨q, hq⟩ := wL_at hg
  refine va_putN C.1 C.2.1 C.2.2.2.2.1 hin ty0 hty hnm C.2.2.2.1 C.2.2.2.2.2.1.1 h1 (wD_of C.2.2.2.2.2.2.1 C.2.2.2.2.2.2.2.1 M) h2 q ((wL_get hq).trans (by rw [hF])) hc k hk (va_Nw.use rfl (C.2.2.2.2.2.1.2.1.1 _ _ _ _ _ _ hl)) (by rw [hT]; exact fun _ h => h) hfin hdt hn hfit hlen hd (fun H1 locs1 g1 _ g3 => ?_)
  refine kk H1 locs1 ls ?_ g3 h3
  rw [← hM, wL_set (wD_of (A := A) C.2.2.2.2.2.2.1 C.2.2.2.2.2.2.2.1 M) hq ho] at g1
  exact g1
theorem mrow_oth {cy : Nat → ClassId} {ad : Nat → Nat → Nat} {M : wS} {g i : Nat} {f : Nat → Int32} {G : Nat} : ∀ g' i', wG G g' i' → ¬ (g' = g ∧ i' = i) → wF cy ad (mrow M g i f).2 g' i' ((mrow M g i f).1 g' i') = wF cy ad M.2 g' i' (M.1 g' i') := by
  intro g' i' _ h
  rw [mrow_ne M g i f h, mrow_2]
theorem wF_L {cy : Nat → ClassId} {ad : Nat → Nat → Nat} {L L' : Int64} {g i : Nat} {f : Nat → Int32} (h : g ≠ 30) : wF cy ad L g i f = wF cy ad L' g i f := by
  unfold wF
  split <;> first | rfl | (unfold wFm; split <;> first | rfl | exact absurd rfl h)
theorem mlong_oth {cy : Nat → ClassId} {ad : Nat → Nat → Nat} {M : wS} {x : Int64} {G : Nat} : ∀ g' i', wG G g' i' → ¬ (g' = 30 ∧ i' = 0) → wF cy ad ((M.1, x) : wS).2 g' i' (((M.1, x) : wS).1 g' i') = wF cy ad M.2 g' i' (M.1 g' i') := by
  intro g' i' hw h
  refine wF_L (fun e => h ⟨e, ?_⟩)
  subst e
  have h2 : i' < 1 := hw.2
  omega
theorem V_iald (C : CX p s m args c cc nL own D cy ad G A R d cells slots) {g i n : Nat} {x : Int32} (j : Nat) (hx : x = nI j) (hj : j < n) (hn : n < 2 ^ 31) (hg : wG G g i) (hF : wF cy ad M.2 g i (M.1 g i) = .inl (cy 0, n, .inl (M.1 g i))) (hd : decode cc pc = .ok (.iaload, 1)) (k : V p l e R s m args below meth c nL D cy ad G A cells slots Q (pc + 1) lv (.int (M.1 g i j) :: st) M) : V p l e R s m args below meth c nL D cy ad G A cells slots Q pc lv (.int x :: .ref (ad g i) :: st) M := by
  intro H locs ls h1 h2 h3
  obtain ⟨q, hq⟩ := wL_at hg
  subst hx
  refine va_iald C.1 C.2.1 C.2.2.2.2.2.1.1 h1 q 0 ((wL_get hq).trans (by rw [hF])) rfl (vp_in_nI hj hn) hd ?_
  rw [nI_clamp (Nat.lt_trans hj hn)]
  exact k H locs ls h1 h2 h3
theorem V_zald (C : CX p s m args c cc nL own D cy ad G A R d cells slots) {g i n : Nat} {x : Int32} (j : Nat) (hx : x = nI j) (hj : j < n) (hn : n < 2 ^ 31) (hg : wG G g i) (hF : wF cy ad M.2 g i (M.1 g i) = .inl (cy 1, n, .inl (M.1 g i))) (hd : decode cc pc = .ok (.baload, 1)) (k : V p l e R s m args below meth c nL D cy ad G A cells slots Q (pc + 1) lv (.int (M.1 g i j) :: st) M) : V p l e R s m args below meth c nL D cy ad G A cells slots Q pc lv (.int x :: .ref (ad g i) :: st) M := by
  intro H locs ls h1 h2 h3
  obtain ⟨q, hq⟩ := wL_at hg
  subst hx
  refine va_zald C.1 C.2.1 C.2.2.2.2.2.1.1 h1 q 1 ((wL_get hq).trans (by rw [hF])) rfl (vp_in_nI hj hn) hd ?_
  rw [nI_clamp (Nat.lt_trans hj hn)]
  exact k H locs ls h1 h2 h3
theorem V_aald (C : CX p s m args c cc nL own D cy ad G A R d cells slots) {g i n t tgt : Nat} {x : Int32} {Cn : String} (j : Nat) (hx : x = nI j) (hj : j < n) (hn : n < 2 ^ 31) (hg : wG G g i) (hF : wF cy ad M.2 g i (M.1 g i) = .inl (cy t, n, .inr (.inr (.inr (.inr (fun j => some (ad tgt j))))))) (ht : (wTys cy)[t]? = some (cy t, .object Cn)) (hd : decode cc pc = .ok (.aaload, 1)) (k : V p l e R s m args below meth c nL D cy ad G A cells slots Q (pc + 1) lv (.ref (ad tgt j) :: st) M) : V p l e R s m args below meth c nL D cy ad G A cells slots Q pc lv (.int x :: .ref (ad g i) :: st) M := by
  intro H locs ls h1 h2 h3
  obtain ⟨q, hq⟩ := wL_at hg
  subst hx
  refine va_aldq C.1 C.2.1 C.2.2.2.2.2.1.1 h1 q t ((wL_get hq).trans (by rw [hF])) ht (vp_in_nI hj hn) hd ?_
  rw [nI_clamp (Nat.lt_trans hj hn)]
  exact k H locs ls h1 h2 h3
theorem V_iast (C : CX p s m args c cc nL own D cy ad G A R d cells slots) {g i n : Nat} {x y : Int32} (j : Nat) (hx : x = nI j) (hj : j < n) (hn : n < 2 ^ 31) (hg : wG G g i) (hF : ∀ f, wF cy ad M.2 g i f = .inl (cy 0, n, .inl f)) (hd : decode cc pc = .ok (.iastore, 1)) (k : V p l e R s m args below meth c nL D cy ad G A cells slots Q (pc + 1) lv st (mset M g i j y)) : V p l e R s m args below meth c nL D cy ad G A cells slots Q pc lv (.int y :: .int x :: .ref (ad g i) :: st) M := by
  intro H locs ls h1 h2 h3
  obtain ⟨q, hq⟩ := wL_at hg
  subst hx
  refine va_iast C.1 C.2.1 C.2.2.2.2.2.1.1 h1 (wD_of C.2.2.2.2.2.2.1 C.2.2.2.2.2.2.2.1 M) h2 q 0 ((wL_get hq).trans (by rw [hF])) rfl (vp_in_nI hj hn) hd (fun H1 locs1 g1 _ g3 => ?_)
  refine k H1 locs1 ls ?_ g3 h3
  rw [nI_clamp (Nat.lt_trans hj hn), ← hF, ← mrow_self M g i (upd (M.1 g i) j y), ← mrow_2 M g i (upd (M.1 g i) j y), wL_set (wD_of (A := A) C.2.2.2.2.2.2.1 C.2.2.2.2.2.2.2.1 M) hq mrow_oth] at g1
  exact g1
theorem V_zast (C : CX p s m args c cc nL own D cy ad G A R d cells slots) {g i n : Nat} {x y : Int32} (j : Nat) (hx : x = nI j) (hj : j < n) (hn : n < 2 ^ 31) (hy : vp_nar .boolean y = y) (hg : wG G g i) (hF : ∀ f, wF cy ad M.2 g i f = .inl (cy 1, n, .inl f)) (hd : decode cc pc = .ok (.bastore, 1)) (k : V p l e R s m args below meth c nL D cy ad G A cells slots Q (pc + 1) lv st (mset M g i j y)) : V p l e R s m args below meth c nL D cy ad G A cells slots Q pc lv (.int y :: .int x :: .ref (ad g i) :: st) M := by
  intro H locs ls h1 h2 h3
  obtain ⟨q, hq⟩ := wL_at hg
  subst hx
  refine va_zast C.1 C.2.1 C.2.2.2.2.2.1.1 h1 (wD_of C.2.2.2.2.2.2.1 C.2.2.2.2.2.2.2.1 M) h2 q 1 ((wL_get hq).trans (by rw [hF])) rfl (vp_in_nI hj hn) hd (fun H1 locs1 g1 _ g3 => ?_)
  refine k H1 locs1 ls ?_ g3 h3
  rw [hy, nI_clamp (Nat.lt_trans hj hn), ← hF, ← mrow_self M g i (upd (M.1 g i) j y), ← mrow_2 M g i (upd (M.1 g i) j y), wL_set (wD_of (A := A) C.2.2.2.2.2.2.1 C.2.2.2.2.2.2.2.1 M) hq mrow_oth] at g1
  exact g1
theorem V_alen (C : CX p s m args c cc nL own D cy ad G A R d cells slots) {g i n : Nat} {v : Int32} (hg : wG G g i) (hF : wF cy ad M.2 g i (M.1 g i) = .inl (cy 0, n, .inl (M.1 g i))) (hv : Int32.ofNat n = v) (hd : decode cc pc = .ok (.arraylength, 1)) (k : V p l e R s m args below meth c nL D cy ad G A cells slots Q (pc + 1) lv (.int v :: st) M) : V p l e R s m args below meth c nL D cy ad G A cells slots Q pc lv (.ref (ad g i) :: st) M := by
  intro H locs ls h1 h2 h3
  obtain ⟨q, hq⟩ := wL_at hg
  exact va_alen C.1 C.2.1 C.2.2.2.2.2.1.1 h1 q 0 ((wL_get hq).trans (by rw [hF])) rfl hv hd (k H locs ls h1 h2 h3)
theorem V_copy (C : CX p s m args c cc nL own D cy ad G A R d cells slots) {g i g' i' n0 n1 index : Nat} {sp dp n : Int32} (a b k0 : Nat) (hsp : sp = nI a) (hdp : dp = nI b) (hn : n = nI k0) (ha : a + k0 ≤ n0) (hb : b + k0 ≤ n1) (hn0 : n0 < 2 ^ 31) (hn1 : n1 < 2 ^ 31) (hg : wG G g i) (hg' : wG G g' i') (hF : ∀ f, wF cy ad M.2 g i f = .inl (cy 0, n0, .inl f)) (hF' : ∀ f, wF cy ad M.2 g' i' f = .inl (cy 0, n1, .inl f))
    (hl : Cond.methodLink own index arraycopyName ∈ lw_good) (hnat : Cond.native arraycopyName ∈ lw_good) (hstat : Cond.static arraycopyName ∈ lw_good) (hini : Cond.initialized "java/lang/System" ∈ lw_good) (hd1 : 1 ≤ d) (hst : (st.map fun v => v.category).sum + (nativeFrameWords "java/lang/System" "arraycopy" 5 + 11) ≤ 40) (hd : decode cc pc = .ok (.invokestatic index, 3))
    (k : V p l e R s m args below meth c nL D cy ad G A cells slots Q (pc + 3) lv st (mrow M g' i' (va_cpy (M.1 g i) (M.1 g' i') a b k0))) : V p l e R s m args below meth c nL D cy ad G A cells slots Q pc lv (.int n :: .int dp :: .ref (ad g' i') :: .int sp :: .ref (ad g i) :: st) M := by
  intro H locs ls h1 h2 h3
  obtain ⟨q, hq⟩ := wL_at hg
  obtain ⟨q', hq'⟩ := wL_at hg'
  subst hsp; subst hdp; subst hn
  have ha1 : a < 2 ^ 31 := by omega
  have hb1 : b < 2 ^ 31 := by omega
  have hk1 : k0 < 2 ^ 31 := by omega
  have hR := C.2.2.2.2.2.2.2.2
  refine va_copyi C.1 C.2.1 (C.2.2.1.trans h3.1.symm) C.2.2.2.1 (C.2.2.2.2.1 _ hl) (C.2.2.2.2.1 _ hnat) (C.2.2.2.2.1 _ hstat) (C.2.2.2.2.1 _ hini) C.2.2.2.2.2.1.1 h1 (wD_of C.2.2.2.2.2.2.1 C.2.2.2.2.2.2.2.1 M) h2 q q' 0 0 (ty := .int) ((wL_get hq).trans (by rw [hF])) ((wL_get hq').trans (by rw [hF'])) rfl rfl rfl (nI_pos ha1) (nI_pos hb1) (nI_pos hk1) (by rw [nI_clamp ha1, nI_clamp hk1]; exact ha) (by rw [nI_clamp hb1, nI_clamp hk1]; exact hb) (fun _ _ => rfl) (by omega) (by omega) hd (fun H1 locs1 g1 _ g3 => ?_)
  refine k H1 locs1 ls ?_ g3 h3
  rw [nI_clamp ha1, nI_clamp hb1, nI_clamp hk1, ← hF', ← mrow_self M g' i' (va_cpy (M.1 g i) (M.1 g' i') a b k0), ← mrow_2 M g' i' (va_cpy (M.1 g i) (M.1 g' i') a b k0), wL_set (wD_of (A := A) C.2.2.2.2.2.2.1 C.2.2.2.2.2.2.2.1 M) hq' mrow_oth] at g1
  exact g1
theorem V_mmax (C : CX p s m args c cc nL own D cy ad G A R d cells slots) {index : Nat} {x y : Int32} (hl : Cond.methodLink own index Lib.Math.max.name ∈ lw_good) (hstat : Cond.static Lib.Math.max.name ∈ lw_good) (hini : Cond.initialized "java/lang/Math" ∈ lw_good) (hco : Cond.code Lib.Math.max.name Lib.Math.max.code 2 (some .int) ∈ lw_good) (hd1 : 1 ≤ d) (hst : (st.map fun v => v.category).sum + 13 ≤ 40) (hd : decode cc pc = .ok (.invokestatic index, 3)) (k : V p l e R s m args below meth c nL D cy ad G A cells slots Q (pc + 3) lv (.int (if x < y then y else x) :: st) M) : V p l e R s m args below meth c nL D cy ad G A cells slots Q pc lv (.int y :: .int x :: st) M := by
  intro H locs ls h1 h2 h3
  have hR := C.2.2.2.2.2.2.2.2
  exact va_mmax C.1 C.2.1 (C.2.2.1.trans h3.1.symm) C.2.2.2.1 (C.2.2.2.2.1 _ hl) (C.2.2.2.2.1 _ hstat) (C.2.2.2.2.1 _ hini) (C.2.2.2.2.1 _ hco) (by omega) (by omega) hR.2.2.1 hR.2.2.2 hd (k H locs ls h1 h2 h3)
theorem V_mmin (C : CX p s m args c cc nL own D cy ad G A R d cells slots) {index : Nat} {x y : Int32} (hl : Cond.methodLink own index Lib.Math.min.name ∈ lw_good) (hstat : Cond.static Lib.Math.min.name ∈ lw_good) (hini : Cond.initialized "java/lang/Math" ∈ lw_good) (hco : Cond.code Lib.Math.min.name Lib.Math.min.code 2 (some .int) ∈ lw_good) (hd1 : 1 ≤ d) (hst : (st.map fun v => v.category).sum + 13 ≤ 40) (hd : decode cc pc = .ok (.invokestatic index, 3)) (k : V p l e R s m args below meth c nL D cy ad G A cells slots Q (pc + 3) lv (.int (if y < x then y else x) :: st) M) : V p l e R s m args below meth c nL D cy ad G A cells slots Q pc lv (.int y :: .int x :: st) M := by
  intro H locs ls h1 h2 h3
  have hR := C.2.2.2.2.2.2.2.2
  exact va_mmin C.1 C.2.1 (C.2.2.1.trans h3.1.symm) C.2.2.2.1 (C.2.2.2.2.1 _ hl) (C.2.2.2.2.1 _ hstat) (C.2.2.2.2.1 _ hini) (C.2.2.2.2.1 _ hco) (by omega) (by omega) hR.2.2.1 hR.2.2.2 hd (k H locs ls h1 h2 h3)
/-! contracts -/
def wU (D : va_G) (cy : Nat → ClassId) (ad : Nat → Nat → Nat) (G : Nat) (M : wS) (U : State) : Prop := va_P D classes (wL cy ad G M) U.heap ∧ wEn D cy ad (wA ad G) U U.heap ∧ wInj ad G
def wQ (D : va_G) (cy : Nat → ClassId) (ad : Nat → Nat → Nat) (G : Nat) (Qf : Option Value → wS → Prop) : Array Value → State → Outcome → State → Prop := fun _ u oc t => (∃ r M', oc = .returned r ∧ Qf r M' ∧ va_P D classes (wL cy ad G M') t.heap) ∧ va_F (wA ad G) u t
def Ctr (l : Launch) (D : va_G) (cy : Nat → ClassId) (ad : Nat → Nat → Nat) (G d : Nat) (y : MethodName) (cc : ByteArray) (nL : Nat) (ret : Option FieldType) (avs : List Value) (M : wS) (Qf : Option Value → wS → Prop) : Prop :=
  Met l y (.code y cc nL ret :: lw_good) (Rm d) (va_Pc avs (wU D cy ad G M)) (wQ D cy ad G Qf) 0 0 (wA ad G)
def rI (Qf : Int32 → wS → Prop) : Option Value → wS → Prop := fun r M => ∃ x, r = some (.int x) ∧ Qf x M
def rL (Qf : Int64 → wS → Prop) : Option Value → wS → Prop := fun r M => ∃ x, r = some (.long x) ∧ Qf x M
def rV (Qf : wS → Prop) : Option Value → wS → Prop := fun r M => r = none ∧ Qf M
theorem Ctr.weaken {y : MethodName} {ret : Option FieldType} {avs : List Value} {Qf Qf' : Option Value → wS → Prop} (h : Ctr l D cy ad G d y cc nL ret avs M Qf) (hQ : ∀ r M', Qf r M' → Qf' r M') : Ctr l D cy ad G d y cc nL ret avs M Qf' := by
  intro p e ha hc hk s m args below hf happ hP hK
  obtain ⟨k, o, h1, h2, h3, ⟨⟨r, M', q1, q2, q3⟩, q4⟩, q5⟩ := h p e ha hc hk s m args below hf happ hP hK
  exact ⟨k, o, h1, h2, h3, ⟨⟨r, M', q1, hQ r M' q2, q3⟩, q4⟩, q5⟩
/-- a contract out of a walk -/
theorem Ctr.of {y : MethodName} {ret : Option FieldType} {avs : List Value} {lv0 : List (Nat × Value)} {Qf : Option Value → wS → Prop} (hy : plainName y.cls = true) (hlen : (lg_sl avs).length ≤ nL) (hlv : lv_args 0 avs = lv0)
    (body : ∀ (p : Program) (e : Env) (s : State) (m : MethodId) (args : Array Value) (below : List Frame) (meth : Method) (c : Code), CX p s m args c cc nL y.cls D cy ad G (wA ad G) (Rm d) d 0 0 → meth.sig.returnType = ret → meth.locks = false → meth.name = y.name →
      V p l e (Rm d) s m args below meth c nL D cy ad G (wA ad G) 0 0 (MQ below (wQ D cy ad G Qf) args s 0 0 (wA ad G)) 0 lv0 [] M) : Ctr l D cy ad G d y cc nL ret avs M Qf := by
  refine Met.ofW (cc := cc) (maxL := nL) (ret := ret) hy rfl ?_
  intro p e s m args below meth c s₁ B hml hv
  obtain ⟨rfl, hP, hE, hI⟩ := hv
  have hts := atoms_spec (ws := Cond.code y cc nL ret :: lw_good) B.pre
  have hl := lv_entry avs (n := nL) hlen
  rw [lg_entry_eq]
  rw [hlv] at hl
  exact body p e s m _ below meth c ⟨B.exec, B.bytes, hml, findClass_of_methodNamed B.named, fun w hw => hts w (List.mem_cons_of_mem _ hw), hE, hI, fun _ h => h, Nat.le_refl _, Nat.le_refl _, Nat.le_refl _, Nat.le_refl _⟩ B.returns B.notSynchronized (name_of_methodNamed B.named B.method).1 s.heap [] _ hP va_S.rf hl
section RET
variable {Qf : Option Value → wS → Prop}
theorem V_iret (C : CX p s m args c cc nL own D cy ad G (wA ad G) R d 0 0) (hr : meth.sig.returnType = some .int) (hk : meth.locks = false) {x : Int32} (hd : decode cc pc = .ok (.ireturn, 1)) (h : Qf (some (.int x)) M) : V p l e R s m args below meth c nL D cy ad G (wA ad G) 0 0 (MQ below (wQ D cy ad G Qf) args s 0 0 (wA ad G)) pc lv [.int x] M :=
  fun H locs ls h1 h2 h3 => W.iret C.1 C.2.1 hr (fun t ht _ => ⟨⟨_, M, rfl, h, by rw [ht]; exact h1⟩, h2.F ht⟩) h2.2.2 hd hk
theorem V_zret (C : CX p s m args c cc nL own D cy ad G (wA ad G) R d 0 0) {ty : FieldType} (hr : meth.sig.returnType = some ty) (hk : meth.locks = false) {x : Int32} (hn : narrow ty (.int x) = .int x) (hd : decode cc pc = .ok (.ireturn, 1)) (h : Qf (some (.int x)) M) : V p l e R s m args below meth c nL D cy ad G (wA ad G) 0 0 (MQ below (wQ D cy ad G Qf) args s 0 0 (wA ad G)) pc lv [.int x] M :=
  fun H locs ls h1 h2 h3 => W.zret C.1 C.2.1 hr hn (fun t ht _ => ⟨⟨_, M, rfl, h, by rw [ht]; exact h1⟩, h2.F ht⟩) h2.2.2 hd hk
theorem V_lret (C : CX p s m args c cc nL own D cy ad G (wA ad G) R d 0 0) (hr : meth.sig.returnType = some .long) (hk : meth.locks = false) {x : Int64} (hd : decode cc pc = .ok (.lreturn, 1)) (h : Qf (some (.long x)) M) : V p l e R s m args below meth c nL D cy ad G (wA ad G) 0 0 (MQ below (wQ D cy ad G Qf) args s 0 0 (wA ad G)) pc lv [.long x] M :=
  fun H locs ls h1 h2 h3 => W.lret C.1 C.2.1 hr (fun t ht _ => ⟨⟨_, M, rfl, h, by rw [ht]; exact h1⟩, h2.F ht⟩) h2.2.2 hd hk
theorem V_vret (C : CX p s m args c cc nL own D cy ad G (wA ad G) R d 0 0) (hr : meth.sig.returnType = none) (hk : meth.locks = false) (hd : decode cc pc = .ok (.return_, 1)) (h : Qf none M) : V p l e R s m args below meth c nL D cy ad G (wA ad G) 0 0 (MQ below (wQ D cy ad G Qf) args s 0 0 (wA ad G)) pc lv [] M :=
  fun H locs ls h1 h2 h3 => W.vret C.1 C.2.1 hr (fun t ht _ => ⟨⟨_, M, rfl, h, by rw [ht]; exact h1⟩, h2.F ht⟩) h2.2.2 hd hk
end RET
theorem wU_blind {avs : List Value} : FrameBlind (va_Pc avs (wU D cy ad G M)) := by
  intro a U g mk h
  obtain ⟨h0, h1, h2, h3⟩ := h
  exact ⟨h0, h1, wEn.moved (s := U) (U := U.calling g mk a) (State.WarmedH.refl U) (fun _ h => h) (fun _ _ _ => rfl) h2, h3⟩
theorem CX.goodIn {y : MethodName} {cy2 : ByteArray} {nL2 : Nat} {ret2 : Option FieldType} (hc : Cond.code y cy2 nL2 ret2 ∈ lw_good) : GoodIn lw_good (.code y cy2 nL2 ret2 :: lw_good) := by
  have h0 : ∀ w ∈ lw_good, w ∈ lw_good ∧ ((w.onTables && w.keeps) = true ∨ ∃ ty, w = .arrayClass ty) := fun w hw => ⟨hw, good_of_word (List.mem_filter.mp hw).2⟩
  intro w hw
  rcases List.mem_cons.mp hw with rfl | hw
  · exact h0 _ hc
  · exact h0 w hw
theorem wU_pre (C : CX p s m args c cc nL own D cy ad G A R d cells slots) {avs : List Value} {H : Heap} {locs : List Loc} (h1 : va_P D classes (wL cy ad G M) H) (h2 : va_S A s.heap H locs) : ∀ U : State, U.heap = H → s.WarmedH U.vm → va_Pc avs (wU D cy ad G M) avs.toArray U :=
  fun U hU hW => ⟨rfl, by rw [hU]; exact h1, wEn.moved hW C.2.2.2.2.2.2.2.1 (fun a g1 g2 => by rw [hU]; exact h2.2.1 a g1 g2) C.2.2.2.2.2.1, C.2.2.2.2.2.2.1⟩
/-- behind a call -/
theorem V_cont {Qf : Option Value → wS → Prop} {a : Array Value} {rest st0 : List Value} {H : Heap} {locs : List Loc} {ls : Array Slot} (C : CX p s m args c cc nL own D cy ad G A R d cells slots) (hr : va_Run p l e R s m args below meth c H locs cells slots 0 0 (F0 m pc ls st0) rest (wQ D cy ad G Qf a) (wA ad G)) (h2 : va_S A s.heap H locs) (h3 : lv_has ls nL lv)
    (k : ∀ r M', Qf r M' → V p l e R s m args below meth c nL D cy ad G A cells slots Q (pc + 3) lv (r.toList ++ rest) M') : W p l e R s m args below meth c H locs cells slots Q (F0 m pc ls st0) := by
  intro T hT X
  obtain ⟨v, st₀, t, T', L, h0, X', hL, e1, e2, ⟨⟨r, M', hv, hp, hb⟩, hz, hk⟩, st⟩ := hr T hT X
  cases hv
  rw [h0] at hz hk
  have hA := C.2.2.2.2.2.2.2.1
  obtain ⟨t2, a1, b1⟩ := k v M' hp T'.heap (locs ++ L) ls (by rw [e1]; exact hb) ⟨Nat.le_trans h2.1 (by rw [e1]; exact hz), fun q g1 g2 => by rw [e1, hk q (Nat.lt_of_lt_of_le g1 h2.1) (fun z => g2 (hA q z))]; exact h2.2.1 q g1 g2, fun q hq => by
      rcases List.mem_append.mp hq with h | h
      · exact h2.2.2 q h
      · exact hA _ (hL q h)⟩ h3 T' rfl X'
  exact ⟨t2, st t2 a1, b1⟩
section CALLS
variable {y : MethodName} {cc2 : ByteArray} {nL2 d2 index n : Nat} {ret2 : Option FieldType} {As : List Value} {Qf : Option Value → wS → Prop}
theorem CX.room (C : CX p s m args c cc nL own D cy ad G A R d cells slots) (hd2 : d2 + 1 ≤ d) (hn2 : nL2 ≤ 21) : (Rm d2).frames + 1 ≤ R.frames ∧ 8 + (nL2 + 11) + (Rm d2).locals ≤ R.locals := by
  have hR := C.2.2.2.2.2.2.2.2
  simp only [Rm]
  omega
theorem V_callV (C : CX p s m args c cc nL own D cy ad G A R d cells slots) {g i ci : Nat} {fs : List Value} {T : u_T} {N : Nat} (hM : Ctr l D cy ad G d2 y cc2 nL2 ret2 (.ref (ad g i) :: As) M Qf) (hd2 : d2 + 1 ≤ d) (hn2 : nL2 ≤ 21) (hco : Cond.code y cc2 nL2 ret2 ∈ lw_good) (hl : Cond.methodLink own index y ∈ lw_good) (hi : Cond.instanceMethod y ∈ lw_good) (hs : Cond.selects y.cls y y ∈ lw_good) (hini : Cond.initialized y.cls ∈ lw_good) (hdd : y.cls ≠ "java/lang/invoke/MethodHandle" ∧ y.cls ≠ "java/lang/invoke/VarHandle" ∧ (parseMethodDescriptor y.desc).map (fun d => d.parameters.length) = some n)
    (hg : wG G g i) (hF : wF cy ad M.2 g i (M.1 g i) = .inr (ci, fs)) (hc : classes[ci]? = some (y.cls, T, N)) (hn : As.length = n) (hw : (st.map fun v => v.category).sum ≤ 8) (hd : decode cc pc = .ok (.invokevirtual index, 3)) (k : ∀ r M', Qf r M' → V p l e R s m args below meth c nL D cy ad G A cells slots Q (pc + 3) lv (r.toList ++ st) M') : V p l e R s m args below meth c nL D cy ad G A cells slots Q pc lv (As.reverse ++ .ref (ad g i) :: st) M := by
  intro H locs ls h1 h2 h3
  obtain ⟨q, hq⟩ := wL_at hg
  have hts := C.2.2.2.2.1
  refine V_cont C (va_runV (C := y.cls) (nL := nL) (Ts := lw_good) (own := own) (index := index) (n := n) (bytes := cc2) (maxL := nL2) (ret := ret2) (As := As) (b := ad g i) (rest := st) ⟨C.1, C.2.1, C.2.2.1, C.2.2.2.1, hts⟩ hM ⟨callB_of n hts (CX.goodIn hco) rfl rfl rfl (hts _ hini) (hts _ hl) hdd (CX.room C hd2 hn2), hts _ hi, hts _ hs⟩ ⟨wU_blind, va_recv C.2.2.2.2.2.1.1 h1 hc ((wL_get hq).trans (by rw [hF])), wU_pre C h1 h2⟩ rfl hn h3.1 rfl (lv_room hw) hd ⟨C.2.2.2.2.2.2.2.2.2.2.1, C.2.2.2.2.2.2.2.2.2.2.2⟩) h2 h3 k
theorem V_callVN (C : CX p s m args c cc nL own D cy ad G A R d cells slots) {g i ci : Nat} {fs : List Value} {T : u_T} {N : Nat} {host : String} (hM : Ctr l D cy ad G d2 y cc2 nL2 ret2 (.ref (ad g i) :: As) M Qf) (hd2 : d2 + 1 ≤ d) (hn2 : nL2 ≤ 21) (hco : Cond.code y cc2 nL2 ret2 ∈ lw_good) (hl : Cond.methodLinkNest own index y host ∈ lw_tbl) (hi : Cond.instanceMethod y ∈ lw_good) (hs : Cond.selects y.cls y y ∈ lw_good) (hini : Cond.initialized y.cls ∈ lw_good) (hdd : y.cls ≠ "java/lang/invoke/MethodHandle" ∧ y.cls ≠ "java/lang/invoke/VarHandle" ∧ (parseMethodDescriptor y.desc).map (fun d => d.parameters.length) = some n)
    (hg : wG G g i) (hF : wF cy ad M.2 g i (M.1 g i) = .inr (ci, fs)) (hc : classes[ci]? = some (y.cls, T, N)) (hn : As.length = n) (hw : (st.map fun v => v.category).sum ≤ 8) (hd : decode cc pc = .ok (.invokevirtual index, 3)) (k : ∀ r M', Qf r M' → V p l e R s m args below meth c nL D cy ad G A cells slots Q (pc + 3) lv (r.toList ++ st) M') : V p l e R s m args below meth c nL D cy ad G A cells slots Q pc lv (As.reverse ++ .ref (ad g i) :: st) M := by
  intro H locs ls h1 h2 h3
  obtain ⟨q, hq⟩ := wL_at hg
  have hts := C.2.2.2.2.1
  refine V_cont C (va_runVN (C := y.cls) (nL := nL) (Ts := lw_good) (own := own) (host := host) (index := index) (n := n) (bytes := cc2) (maxL := nL2) (ret := ret2) (As := As) (b := ad g i) (rest := st) ⟨C.1, C.2.1, C.2.2.1, C.2.2.2.1, hts⟩ hM ⟨va_cnB n hts (CX.goodIn hco) rfl rfl rfl (C.2.2.2.2.2.1.2.1.2 _ _ _ _ hl) (hts _ hini) hdd (CX.room C hd2 hn2), hts _ hi, hts _ hs⟩ ⟨wU_blind, va_recv C.2.2.2.2.2.1.1 h1 hc ((wL_get hq).trans (by rw [hF])), wU_pre C h1 h2⟩ rfl hn h3.1 rfl (lv_room hw) hd ⟨C.2.2.2.2.2.2.2.2.2.2.1, C.2.2.2.2.2.2.2.2.2.2.2⟩) h2 h3 k
theorem V_callS (C : CX p s m args c cc nL own D cy ad G A R d cells slots) (hM : Ctr l D cy ad G d2 y cc2 nL2 ret2 As M Qf) (hd2 : d2 + 1 ≤ d) (hn2 : nL2 ≤ 21) (hco : Cond.code y cc2 nL2 ret2 ∈ lw_good) (hl : Cond.methodLink own index y ∈ lw_good) (hi : Cond.static y ∈ lw_good) (hini : Cond.initialized y.cls ∈ lw_good) (hdd : y.cls ≠ "java/lang/invoke/MethodHandle" ∧ y.cls ≠ "java/lang/invoke/VarHandle" ∧ (parseMethodDescriptor y.desc).map (fun d => d.parameters.length) = some n)
    (hn : As.length = n) (hw : (st.map fun v => v.category).sum ≤ 8) (hd : decode cc pc = .ok (.invokestatic index, 3)) (k : ∀ r M', Qf r M' → V p l e R s m args below meth c nL D cy ad G A cells slots Q (pc + 3) lv (r.toList ++ st) M') : V p l e R s m args below meth c nL D cy ad G A cells slots Q pc lv (As.reverse ++ st) M := by
  intro H locs ls h1 h2 h3
  have hts := C.2.2.2.2.1
  refine V_cont C (va_runS (nL := nL) (Ts := lw_good) (own := own) (index := index) (n := n) (bytes := cc2) (maxL := nL2) (ret := ret2) (As := As) (rest := st) ⟨C.1, C.2.1, C.2.2.1, C.2.2.2.1, hts⟩ hM ⟨callB_of n hts (CX.goodIn hco) rfl rfl rfl (hts _ hini) (hts _ hl) hdd (CX.room C hd2 hn2), hts _ hi⟩ ⟨wU_blind, wU_pre C h1 h2⟩ rfl hn h3.1 rfl (lv_room hw) hd ⟨C.2.2.2.2.2.2.2.2.2.2.1, C.2.2.2.2.2.2.2.2.2.2.2⟩) h2 h3 k
theorem V_callSN (C : CX p s m args c cc nL own D cy ad G A R d cells slots) {host : String} (hM : Ctr l D cy ad G d2 y cc2 nL2 ret2 As M Qf) (hd2 : d2 + 1 ≤ d) (hn2 : nL2 ≤ 21) (hco : Cond.code y cc2 nL2 ret2 ∈ lw_good) (hl : Cond.methodLinkNest own index y host ∈ lw_tbl) (hi : Cond.static y ∈ lw_good) (hini : Cond.initialized y.cls ∈ lw_good) (hdd : y.cls ≠ "java/lang/invoke/MethodHandle" ∧ y.cls ≠ "java/lang/invoke/VarHandle" ∧ (parseMethodDescriptor y.desc).map (fun d => d.parameters.length) = some n)
    (hn : As.length = n) (hw : (st.map fun v => v.category).sum ≤ 8) (hd : decode cc pc = .ok (.invokestatic index, 3)) (k : ∀ r M', Qf r M' → V p l e R s m args below meth c nL D cy ad G A cells slots Q (pc + 3) lv (r.toList ++ st) M') : V p l e R s m args below meth c nL D cy ad G A cells slots Q pc lv (As.reverse ++ st) M := by
  intro H locs ls h1 h2 h3
  have hts := C.2.2.2.2.1
  refine V_cont C (va_runSN (nL := nL) (Ts := lw_good) (own := own) (host := host) (index := index) (n := n) (bytes := cc2) (maxL := nL2) (ret := ret2) (As := As) (rest := st) ⟨C.1, C.2.1, C.2.2.1, C.2.2.2.1, hts⟩ hM ⟨va_cnB n hts (CX.goodIn hco) rfl rfl rfl (C.2.2.2.2.2.1.2.1.2 _ _ _ _ hl) (hts _ hini) hdd (CX.room C hd2 hn2), hts _ hi, trivial⟩ ⟨wU_blind, wU_pre C h1 h2⟩ rfl hn h3.1 rfl (lv_room hw) hd ⟨C.2.2.2.2.2.2.2.2.2.2.1, C.2.2.2.2.2.2.2.2.2.2.2⟩) h2 h3 k
/-- a call on a text constant -/
theorem V_callK (C : CX p s m args c cc nL own D cy ad G A R d cells slots) {i : Nat} (hM : Ctr l D cy ad G d2 y cc2 nL2 ret2 (.ref (ad 61 i) :: As) M Qf) (hd2 : d2 + 1 ≤ d) (hn2 : nL2 ≤ 21) (hco : Cond.code y cc2 nL2 ret2 ∈ lw_good) (hl : Cond.methodLink own index y ∈ lw_good) (hi : Cond.instanceMethod y ∈ lw_good) (hs : Cond.selects y.cls y y ∈ lw_good) (hini : Cond.initialized y.cls ∈ lw_good) (hdd : y.cls ≠ "java/lang/invoke/MethodHandle" ∧ y.cls ≠ "java/lang/invoke/VarHandle" ∧ (parseMethodDescriptor y.desc).map (fun d => d.parameters.length) = some n)
    (hy : y.cls = "java/lang/String") (hi13 : i < 13) (hn : As.length = n) (hw : (st.map fun v => v.category).sum ≤ 8) (hd : decode cc pc = .ok (.invokevirtual index, 3)) (k : ∀ r M', Qf r M' → V p l e R s m args below meth c nL D cy ad G A cells slots Q (pc + 3) lv (r.toList ++ st) M') : V p l e R s m args below meth c nL D cy ad G A cells slots Q pc lv (As.reverse ++ .ref (ad 61 i) :: st) M := by
  intro H locs ls h1 h2 h3
  have hts := C.2.2.2.2.1
  refine V_cont C (va_runV (C := y.cls) (nL := nL) (Ts := lw_good) (own := own) (index := index) (n := n) (bytes := cc2) (maxL := nL2) (ret := ret2) (As := As) (b := ad 61 i) (rest := st) ⟨C.1, C.2.1, C.2.2.1, C.2.2.2.1, hts⟩ hM ⟨callB_of n hts (CX.goodIn hco) rfl rfl rfl (hts _ hini) (hts _ hl) hdd (CX.room C hd2 hn2), hts _ hi, hts _ hs⟩ ⟨wU_blind, by rw [hy]; exact vk_recv C.2.2.2.2.2.1.2.2.2.1 hi13 h2, wU_pre C h1 h2⟩ rfl hn h3.1 rfl (lv_room hw) hd ⟨C.2.2.2.2.2.2.2.2.2.2.1, C.2.2.2.2.2.2.2.2.2.2.2⟩) h2 h3 k
end CALLS
theorem V_ldcS (C : CX p s m args c cc nL own D cy ad G A R d cells slots) {i index : Nat} {tx : String} (hq : wTx[i]? = some (own, index, tx)) (hd : decode cc pc = .ok (.ldc index, 2)) (k : V p l e R s m args below meth c nL D cy ad G A cells slots Q (pc + 2) lv (.ref (ad 61 i) :: st) M) : V p l e R s m args below meth c nL D cy ad G A cells slots Q pc lv st M :=
  fun H locs ls h1 h2 h3 => va_ldcS C.1 C.2.1 C.2.2.2.1 (C.2.2.2.2.2.1.2.2.2.2.1 i _ hq) hd (k H locs ls h1 h2 h3)
theorem V_kcoder (C : CX p s m args c cc nL own D cy ad G A R d cells slots) {i index : Nat} (hi : i < 13) (hl : Cond.fieldLink own index "java/lang/String" "coder" "B" ∈ lw_good) (hd : decode cc pc = .ok (.getfield index, 3)) (k : V p l e R s m args below meth c nL D cy ad G A cells slots Q (pc + 3) lv (.int 0 :: st) M) : V p l e R s m args below meth c nL D cy ad G A cells slots Q pc lv (.ref (ad 61 i) :: st) M :=
  fun H locs ls h1 h2 h3 => vk_getf C.1 C.2.1 (C.2.2.2.2.2.1.2.2.2.1.1 i hi).2.1 h2 C.2.2.2.1 (C.2.2.2.2.1 _ hl) (fun _ h => h) hd (k H locs ls h1 h2 h3)
theorem V_kvalue (C : CX p s m args c cc nL own D cy ad G A R d cells slots) {i index : Nat} (hi : i < 13) (hl : Cond.fieldLink own index "java/lang/String" "value" "[B" ∈ lw_good) (hd : decode cc pc = .ok (.getfield index, 3)) (k : V p l e R s m args below meth c nL D cy ad G A cells slots Q (pc + 3) lv (.ref (ad 62 i) :: st) M) : V p l e R s m args below meth c nL D cy ad G A cells slots Q pc lv (.ref (ad 61 i) :: st) M :=
  fun H locs ls h1 h2 h3 => vk_getf C.1 C.2.1 (C.2.2.2.2.2.1.2.2.2.1.1 i hi).2.2.1 h2 C.2.2.2.1 (C.2.2.2.2.1 _ hl) (fun _ h => h) hd (k H locs ls h1 h2 h3)
theorem V_compact (C : CX p s m args c cc nL own D cy ad G A R d cells slots) {index : Nat} (hl : Cond.fieldLink own index "java/lang/String" "COMPACT_STRINGS" "Z" ∈ lw_good) (hd : decode cc pc = .ok (.getstatic index, 3)) (k : V p l e R s m args below meth c nL D cy ad G A cells slots Q (pc + 3) lv (.int 1 :: st) M) : V p l e R s m args below meth c nL D cy ad G A cells slots Q pc lv st M :=
  fun H locs ls h1 h2 h3 => va_gets C.1 C.2.1 C.2.2.2.2.2.1.2.2.2.2.2.1 h2 C.2.2.2.1 (C.2.2.2.2.1 _ hl) (fun _ h => h) hd (k H locs ls h1 h2 h3)
theorem V_under (C : CX p s m args c cc nL own D cy ad G A R d cells slots) {index : Nat} {host : String} (hl : Cond.fieldLinkNest own index "CostsAge" "UNDER" "[I" host ∈ lw_tbl) (hd : decode cc pc = .ok (.getstatic index, 3)) (k : V p l e R s m args below meth c nL D cy ad G A cells slots Q (pc + 3) lv (.ref (ad 60 0) :: st) M) : V p l e R s m args below meth c nL D cy ad G A cells slots Q pc lv st M :=
  fun H locs ls h1 h2 h3 => va_getsN C.1 C.2.1 C.2.2.2.2.2.1.2.2.1.1 h2 C.2.2.2.1 (va_Nw.use rfl (C.2.2.2.2.2.1.2.1.1 _ _ _ _ _ _ hl)) (fun _ h => h) hd (k H locs ls h1 h2 h3)
theorem V_uald (C : CX p s m args c cc nL own D cy ad G A R d cells slots) {x : Int32} (j : Nat) (hx : x = nI j) (hj : j < 6) (hd : decode cc pc = .ok (.iaload, 1)) (k : V p l e R s m args below meth c nL D cy ad G A cells slots Q (pc + 1) lv (.int (wUnder j) :: st) M) : V p l e R s m args below meth c nL D cy ad G A cells slots Q pc lv (.int x :: .ref (ad 60 0) :: st) M := by
  intro H locs ls h1 h2 h3
  obtain ⟨cell, q1, q2, q3, q4, q5, q6, q7⟩ := C.2.2.2.2.2.1.2.2.1.2
  subst hx
  have hc : (nI j).toNatClampNeg = j := nI_clamp (by omega)
  refine W.iald (v := .int (wUnder j)) C.1 C.2.1 (by rw [h2.2.1 _ (Array.getElem?_eq_some_iff.mp q1).1 q7]; exact q1) q2 q3 ?_ (by rw [hc]; exact q6 j hj) rfl rfl hd (k H locs ls h1 h2 h3)
  rw [hc]
  rintro (h | h)
  · exact nI_pos (by omega) h
  · omega
theorem V_kalen (C : CX p s m args c cc nL own D cy ad G A R d cells slots) {i : Nat} (hi : i < 13) (hd : decode cc pc = .ok (.arraylength, 1)) (k : V p l e R s m args below meth c nL D cy ad G A cells slots Q (pc + 1) lv (.int (nI (wTlen.getD i 0)) :: st) M) : V p l e R s m args below meth c nL D cy ad G A cells slots Q pc lv (.ref (ad 62 i) :: st) M := by
  intro H locs ls h1 h2 h3
  obtain ⟨cell, q1, q2, q3, q4, q5, q6, q7⟩ := (C.2.2.2.2.2.1.2.2.2.1.1 i hi).2.2.2
  exact W.alen (n := nI (wTlen.getD i 0)) C.1 C.2.1 (by rw [h2.2.1 _ (Array.getElem?_eq_some_iff.mp q1).1 q7]; exact q1) q2 q5 rfl rfl hd (k H locs ls h1 h2 h3)
theorem V_kbald (C : CX p s m args c cc nL own D cy ad G A R d cells slots) {i : Nat} {x : Int32} (j : Nat) (hi : i < 13) (hx : x = nI j) (hj : j < wTlen.getD i 0) (hj2 : j < 2 ^ 31) (hd : decode cc pc = .ok (.baload, 1)) (k : V p l e R s m args below meth c nL D cy ad G A cells slots Q (pc + 1) lv (.int ((wTby.getD i []).getD j 0) :: st) M) : V p l e R s m args below meth c nL D cy ad G A cells slots Q pc lv (.int x :: .ref (ad 62 i) :: st) M := by
  intro H locs ls h1 h2 h3
  obtain ⟨cell, q1, q2, q3, q4, q5, q6, q7⟩ := (C.2.2.2.2.2.1.2.2.2.1.1 i hi).2.2.2
  subst hx
  have hc : (nI j).toNatClampNeg = j := nI_clamp hj2
  refine W.bald (v := .int ((wTby.getD i []).getD j 0)) C.1 C.2.1 (by rw [h2.2.1 _ (Array.getElem?_eq_some_iff.mp q1).1 q7]; exact q1) q2 q3 ?_ (by rw [hc]; exact q6 j hj) rfl rfl hd (k H locs ls h1 h2 h3)
  rw [hc]
  rintro (h | h)
  · exact nI_pos hj2 h
  · omega
end VR
