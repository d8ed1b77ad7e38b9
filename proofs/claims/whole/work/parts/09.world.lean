/-! THE WORLD: the class's 18 cells (its object, Load, two rows, the row of pallets, Axles, eight pallets, Search and its row, Seals and its row), the reference's 11, the law's long[1]. Numbers by i (scalars) and a (rows). -/
/-- a family of rows, one of them changed -/
def au (a : Nat → Nat → Int32) (k : Nat) (f : Nat → Int32) : Nat → Nat → Int32 := fun m => if m = k then f else a m
/-- the array classes -/
abbrev ty4 : Type := ClassId × ClassId × ClassId × ClassId
abbrev tys4 (t : ty4) : List (ClassId × FieldType) := [(t.1, .int), (t.2.1, .boolean), (t.2.2.1, .object "TruckLoads$Pallet"), (t.2.2.2, .long)]
/-- what stays: launch, classes, array classes, script -/
abbrev En (l : Launch) (D : va_G) (t : ty4) (b L : Nat) (xs : Nat → Int32) : mi_E := (l, D, tys4 t, b, L, xs)
def hw (t : ty4) (q : Nat → Nat) (i : Nat → Int32) (a : Nat → Nat → Int32) (w : Int64) : va_W :=
  [(q 0, .inr (5, [.ref (q 1), .ref (q 14), .ref (q 16), .int (i 0), .int (i 1)])),
   (q 1, .inr (1, [.int (i 2), .ref (q 2), .ref (q 3), .ref (q 4), .ref (q 5), .int (i 3)])),
   (q 2, .inl (t.1, 12, .inl (a 0))),
   (q 3, .inl (t.2.1, 12, .inl (a 1))),
   (q 4, .inl (t.2.2.1, 8, .inr (.inr (.inr (.inr (fun j => if j < 8 then some (q (6 + j)) else none)))))),
   (q 5, .inr (0, [.int (i 4), .int (i 5), .int (i 6), .int (i 7)])),
   (q 6, .inr (2, [.int (a 2 0), .int (a 3 0), .int (a 4 0), .int (a 5 0), .int (a 6 0), .int (a 7 0)])),
   (q 7, .inr (2, [.int (a 2 1), .int (a 3 1), .int (a 4 1), .int (a 5 1), .int (a 6 1), .int (a 7 1)])),
   (q 8, .inr (2, [.int (a 2 2), .int (a 3 2), .int (a 4 2), .int (a 5 2), .int (a 6 2), .int (a 7 2)])),
   (q 9, .inr (2, [.int (a 2 3), .int (a 3 3), .int (a 4 3), .int (a 5 3), .int (a 6 3), .int (a 7 3)])),
   (q 10, .inr (2, [.int (a 2 4), .int (a 3 4), .int (a 4 4), .int (a 5 4), .int (a 6 4), .int (a 7 4)])),
   (q 11, .inr (2, [.int (a 2 5), .int (a 3 5), .int (a 4 5), .int (a 5 5), .int (a 6 5), .int (a 7 5)])),
   (q 12, .inr (2, [.int (a 2 6), .int (a 3 6), .int (a 4 6), .int (a 5 6), .int (a 6 6), .int (a 7 6)])),
   (q 13, .inr (2, [.int (a 2 7), .int (a 3 7), .int (a 4 7), .int (a 5 7), .int (a 6 7), .int (a 7 7)])),
   (q 14, .inr (4, [.ref (q 15), .int (i 8), .int (i 9)])),
   (q 15, .inl (t.1, 5, .inl (a 8))),
   (q 16, .inr (3, [.ref (q 17), .int (i 10), .int (i 11)])),
   (q 17, .inl (t.1, 10, .inl (a 9))),
   (q 18, .inr (6, [.int (i 12), .ref (q 19), .ref (q 20), .int (i 13), .int (i 14), .int (i 15), .int (i 16), .int (i 17), .int (i 18), .ref (q 21), .ref (q 22), .ref (q 23), .ref (q 24), .ref (q 25), .ref (q 26), .ref (q 27), .int (i 19), .int (i 20), .int (i 21), .int (i 22), .ref (q 28)])),
   (q 19, .inl (t.1, 12, .inl (a 10))),
   (q 20, .inl (t.2.1, 12, .inl (a 11))),
   (q 21, .inl (t.1, 8, .inl (a 12))),
   (q 22, .inl (t.2.1, 8, .inl (a 13))),
   (q 23, .inl (t.2.1, 8, .inl (a 14))),
   (q 24, .inl (t.1, 8, .inl (a 15))),
   (q 25, .inl (t.1, 8, .inl (a 16))),
   (q 26, .inl (t.1, 8, .inl (a 17))),
   (q 27, .inl (t.1, 8, .inl (a 18))),
   (q 28, .inl (t.1, 10, .inl (a 19))),
   (q 29, .inl (t.2.2.2, 1, .inr (.inl (fun j => if j = 0 then w else 0))))]
/-- a pallet's cell by its number -/
theorem hw_pal {t : ty4} {q : Nat → Nat} {i : Nat → Int32} {a : Nat → Nat → Int32} {w : Int64} : ∀ {j : Nat}, j < 8 → (hw t q i a w)[6 + j]? = some (q (6 + j), .inr (2, [.int (a 2 j), .int (a 3 j), .int (a 4 j), .int (a 5 j), .int (a 6 j), .int (a 7 j)]))
  | 0, _ => rfl
  | 1, _ => rfl
  | 2, _ => rfl
  | 3, _ => rfl
  | 4, _ => rfl
  | 5, _ => rfl
  | 6, _ => rfl
  | 7, _ => rfl
  | _ + 8, h => absurd h (by omega)
/-- .. and one field of it changed -/
theorem hw_palset {t : ty4} {q : Nat → Nat} {i : Nat → Int32} {a : Nat → Nat → Int32} {w : Int64} {x : Int32} : ∀ {j : Nat} (k : Nat), j < 8 → k < 6 → (hw t q i a w).set (6 + j) (q (6 + j), .inr (2, ([.int (a 2 j), .int (a 3 j), .int (a 4 j), .int (a 5 j), .int (a 6 j), .int (a 7 j)] : List Value).set k (.int x))) = hw t q i (au a (2 + k) (upd (a (2 + k)) j x)) w
  | 0, 0, _, _ => rfl
  | 0, 1, _, _ => rfl
  | 0, 2, _, _ => rfl
  | 0, 3, _, _ => rfl
  | 0, 4, _, _ => rfl
  | 0, 5, _, _ => rfl
  | 1, 0, _, _ => rfl
  | 1, 1, _, _ => rfl
  | 1, 2, _, _ => rfl
  | 1, 3, _, _ => rfl
  | 1, 4, _, _ => rfl
  | 1, 5, _, _ => rfl
  | 2, 0, _, _ => rfl
  | 2, 1, _, _ => rfl
  | 2, 2, _, _ => rfl
  | 2, 3, _, _ => rfl
  | 2, 4, _, _ => rfl
  | 2, 5, _, _ => rfl
  | 3, 0, _, _ => rfl
  | 3, 1, _, _ => rfl
  | 3, 2, _, _ => rfl
  | 3, 3, _, _ => rfl
  | 3, 4, _, _ => rfl
  | 3, 5, _, _ => rfl
  | 4, 0, _, _ => rfl
  | 4, 1, _, _ => rfl
  | 4, 2, _, _ => rfl
  | 4, 3, _, _ => rfl
  | 4, 4, _, _ => rfl
  | 4, 5, _, _ => rfl
  | 5, 0, _, _ => rfl
  | 5, 1, _, _ => rfl
  | 5, 2, _, _ => rfl
  | 5, 3, _, _ => rfl
  | 5, 4, _, _ => rfl
  | 5, 5, _, _ => rfl
  | 6, 0, _, _ => rfl
  | 6, 1, _, _ => rfl
  | 6, 2, _, _ => rfl
  | 6, 3, _, _ => rfl
  | 6, 4, _, _ => rfl
  | 6, 5, _, _ => rfl
  | 7, 0, _, _ => rfl
  | 7, 1, _, _ => rfl
  | 7, 2, _, _ => rfl
  | 7, 3, _, _ => rfl
  | 7, 4, _, _ => rfl
  | 7, 5, _, _ => rfl
  | _ + 8, _, h, _ => absurd h (by omega)
  | _, _ + 6, _, h => absurd h (by omega)
