/-! ===== the reference by itself: one object and 33 arrays; M k j: the field k (j = 0), or the place j of the array that the field k is ===== -/
abbrev Mem : Type := Nat → Nat → Int32
/-- kinds of the fields: 0 int, 1 boolean, 2 int array, 3 boolean array; places of the arrays behind the object; lengths -/
def rK : List Nat := [0, 0, 2, 2, 2, 0, 2, 1, 0, 0, 0, 0, 2, 2, 0, 2, 2, 2, 2, 2, 2, 2, 0, 2, 2, 2, 2, 2, 0, 2, 3, 2, 2, 2, 2, 2, 2, 3, 2, 0, 0, 0, 0, 0, 0, 0, 0, 2, 2, 2, 2, 2, 0, 0]
def rO : List Nat := [0, 0, 1, 2, 3, 0, 4, 0, 0, 0, 0, 0, 5, 6, 0, 7, 8, 9, 10, 11, 12, 13, 0, 14, 15, 16, 17, 18, 0, 19, 20, 21, 22, 23, 24, 25, 26, 27, 28, 0, 0, 0, 0, 0, 0, 0, 0, 29, 30, 31, 32, 33, 0, 0]
def rN : List Nat := [0, 0, 2000, 2000, 2000, 0, 200, 0, 0, 0, 0, 0, 1000, 1000, 0, 200, 200, 200, 200, 200, 3200, 3200, 0, 16, 16, 4, 1000, 1000, 0, 1500, 1500, 1500, 1500, 1500, 60000, 60000, 60000, 1500, 1500, 0, 0, 0, 0, 0, 0, 0, 0, 2000, 2000, 2000, 80000, 2000, 0, 0]
def mfl (m0 : Nat) (M : Mem) : List Value := [.int (M 0 0), .int (M 1 0), .ref (m0 + 1), .ref (m0 + 2), .ref (m0 + 3), .int (M 5 0), .ref (m0 + 4), .int (M 7 0), .int (M 8 0), .int (M 9 0), .int (M 10 0), .int (M 11 0), .ref (m0 + 5), .ref (m0 + 6), .int (M 14 0), .ref (m0 + 7), .ref (m0 + 8), .ref (m0 + 9), .ref (m0 + 10), .ref (m0 + 11), .ref (m0 + 12), .ref (m0 + 13), .int (M 22 0), .ref (m0 + 14), .ref (m0 + 15), .ref (m0 + 16), .ref (m0 + 17), .ref (m0 + 18), .int (M 28 0), .ref (m0 + 19), .ref (m0 + 20), .ref (m0 + 21), .ref (m0 + 22), .ref (m0 + 23), .ref (m0 + 24), .ref (m0 + 25), .ref (m0 + 26), .ref (m0 + 27), .ref (m0 + 28), .int (M 39 0), .int (M 40 0), .int (M 41 0), .int (M 42 0), .int (M 43 0), .int (M 44 0), .int (M 45 0), .int (M 46 0), .ref (m0 + 29), .ref (m0 + 30), .ref (m0 + 31), .ref (m0 + 32), .ref (m0 + 33), .int (M 52 0), .int (M 53 0)]
def mcs (m0 : Nat) (M : Mem) : List va_E := [oB 9 (mfl m0 M), aI 2000 (M 2), aI 2000 (M 3), aI 2000 (M 4), aI 200 (M 6), aI 1000 (M 12), aI 1000 (M 13), aI 200 (M 15), aI 200 (M 16), aI 200 (M 17), aI 200 (M 18), aI 200 (M 19), aI 3200 (M 20), aI 3200 (M 21), aI 16 (M 23), aI 16 (M 24), aI 4 (M 25), aI 1000 (M 26), aI 1000 (M 27), aI 1500 (M 29), aZ 1500 (M 30), aI 1500 (M 31), aI 1500 (M 32), aI 1500 (M 33), aI 60000 (M 34), aI 60000 (M 35), aI 60000 (M 36), aZ 1500 (M 37), aI 1500 (M 38), aI 2000 (M 47), aI 2000 (M 48), aI 2000 (M 49), aI 80000 (M 50), aI 2000 (M 51)]
def up2 (M : Mem) (k j : Nat) (x : Int32) : Mem := fun k' => if k' = k then upd (M k) j x else M k'
theorem mcs_int (m0 : Nat) (M : Mem) (x : Int32) : ∀ k, k < 54 → (rK.getD k 9 = 0 ∨ rK.getD k 9 = 1) → (mcs m0 M).set 0 (oB 9 ((mfl m0 M).set k (.int x))) = mcs m0 (up2 M k 0 x) := by
  intro k hk h
  match k, hk, h with
  | 0, _, h => exact rfl
  | 1, _, h => exact rfl
  | 2, _, h => exact absurd h (by decide)
  | 3, _, h => exact absurd h (by decide)
  | 4, _, h => exact absurd h (by decide)
  | 5, _, h => exact rfl
  | 6, _, h => exact absurd h (by decide)
  | 7, _, h => exact rfl
  | 8, _, h => exact rfl
  | 9, _, h => exact rfl
  | 10, _, h => exact rfl
  | 11, _, h => exact rfl
  | 12, _, h => exact absurd h (by decide)
  | 13, _, h => exact absurd h (by decide)
  | 14, _, h => exact rfl
  | 15, _, h => exact absurd h (by decide)
  | 16, _, h => exact absurd h (by decide)
  | 17, _, h => exact absurd h (by decide)
  | 18, _, h => exact absurd h (by decide)
  | 19, _, h => exact absurd h (by decide)
  | 20, _, h => exact absurd h (by decide)
  | 21, _, h => exact absurd h (by decide)
  | 22, _, h => exact rfl
  | 23, _, h => exact absurd h (by decide)
  | 24, _, h => exact absurd h (by decide)
  | 25, _, h => exact absurd h (by decide)
  | 26, _, h => exact absurd h (by decide)
  | 27, _, h => exact absurd h (by decide)
  | 28, _, h => exact rfl
  | 29, _, h => exact absurd h (by decide)
  | 30, _, h => exact absurd h (by decide)
  | 31, _, h => exact absurd h (by decide)
  | 32, _, h => exact absurd h (by decide)
  | 33, _, h => exact absurd h (by decide)
  | 34, _, h => exact absurd h (by decide)
  | 35, _, h => exact absurd h (by decide)
  | 36, _, h => exact absurd h (by decide)
  | 37, _, h => exact absurd h (by decide)
  | 38, _, h => exact absurd h (by decide)
  | 39, _, h => exact rfl
  | 40, _, h => exact rfl
  | 41, _, h => exact rfl
  | 42, _, h => exact rfl
  | 43, _, h => exact rfl
  | 44, _, h => exact rfl
  | 45, _, h => exact rfl
  | 46, _, h => exact rfl
  | 47, _, h => exact absurd h (by decide)
  | 48, _, h => exact absurd h (by decide)
  | 49, _, h => exact absurd h (by decide)
  | 50, _, h => exact absurd h (by decide)
  | 51, _, h => exact absurd h (by decide)
  | 52, _, h => exact rfl
  | 53, _, h => exact rfl
  | k + 54, hk, _ => exact absurd hk (by omega)
theorem mcs_arr (m0 : Nat) (M : Mem) (j : Nat) (x : Int32) : ∀ k, k < 54 → rK.getD k 9 = 2 → (mcs m0 M).set (rO.getD k 0) (aI (rN.getD k 0) (upd (M k) j x)) = mcs m0 (up2 M k j x) := by
  intro k hk h
  match k, hk, h with
  | 0, _, h => exact absurd h (by decide)
  | 1, _, h => exact absurd h (by decide)
  | 2, _, h => exact rfl
  | 3, _, h => exact rfl
  | 4, _, h => exact rfl
  | 5, _, h => exact absurd h (by decide)
  | 6, _, h => exact rfl
  | 7, _, h => exact absurd h (by decide)
  | 8, _, h => exact absurd h (by decide)
  | 9, _, h => exact absurd h (by decide)
  | 10, _, h => exact absurd h (by decide)
  | 11, _, h => exact absurd h (by decide)
  | 12, _, h => exact rfl
  | 13, _, h => exact rfl
  | 14, _, h => exact absurd h (by decide)
  | 15, _, h => exact rfl
  | 16, _, h => exact rfl
  | 17, _, h => exact rfl
  | 18, _, h => exact rfl
  | 19, _, h => exact rfl
  | 20, _, h => exact rfl
  | 21, _, h => exact rfl
  | 22, _, h => exact absurd h (by decide)
  | 23, _, h => exact rfl
  | 24, _, h => exact rfl
  | 25, _, h => exact rfl
  | 26, _, h => exact rfl
  | 27, _, h => exact rfl
  | 28, _, h => exact absurd h (by decide)
  | 29, _, h => exact rfl
  | 30, _, h => exact absurd h (by decide)
  | 31, _, h => exact rfl
  | 32, _, h => exact rfl
  | 33, _, h => exact rfl
  | 34, _, h => exact rfl
  | 35, _, h => exact rfl
  | 36, _, h => exact rfl
  | 37, _, h => exact absurd h (by decide)
  | 38, _, h => exact rfl
  | 39, _, h => exact absurd h (by decide)
  | 40, _, h => exact absurd h (by decide)
  | 41, _, h => exact absurd h (by decide)
  | 42, _, h => exact absurd h (by decide)
  | 43, _, h => exact absurd h (by decide)
  | 44, _, h => exact absurd h (by decide)
  | 45, _, h => exact absurd h (by decide)
  | 46, _, h => exact absurd h (by decide)
  | 47, _, h => exact rfl
  | 48, _, h => exact rfl
  | 49, _, h => exact rfl
  | 50, _, h => exact rfl
  | 51, _, h => exact rfl
  | 52, _, h => exact absurd h (by decide)
  | 53, _, h => exact absurd h (by decide)
  | k + 54, hk, _ => exact absurd hk (by omega)
theorem mcs_arz (m0 : Nat) (M : Mem) (j : Nat) (x : Int32) : ∀ k, k < 54 → rK.getD k 9 = 3 → (mcs m0 M).set (rO.getD k 0) (aZ (rN.getD k 0) (upd (M k) j x)) = mcs m0 (up2 M k j x) := by
  intro k hk h
  match k, hk, h with
  | 0, _, h => exact absurd h (by decide)
  | 1, _, h => exact absurd h (by decide)
  | 2, _, h => exact absurd h (by decide)
  | 3, _, h => exact absurd h (by decide)
  | 4, _, h => exact absurd h (by decide)
  | 5, _, h => exact absurd h (by decide)
  | 6, _, h => exact absurd h (by decide)
  | 7, _, h => exact absurd h (by decide)
  | 8, _, h => exact absurd h (by decide)
  | 9, _, h => exact absurd h (by decide)
  | 10, _, h => exact absurd h (by decide)
  | 11, _, h => exact absurd h (by decide)
  | 12, _, h => exact absurd h (by decide)
  | 13, _, h => exact absurd h (by decide)
  | 14, _, h => exact absurd h (by decide)
  | 15, _, h => exact absurd h (by decide)
  | 16, _, h => exact absurd h (by decide)
  | 17, _, h => exact absurd h (by decide)
  | 18, _, h => exact absurd h (by decide)
  | 19, _, h => exact absurd h (by decide)
  | 20, _, h => exact absurd h (by decide)
  | 21, _, h => exact absurd h (by decide)
  | 22, _, h => exact absurd h (by decide)
  | 23, _, h => exact absurd h (by decide)
  | 24, _, h => exact absurd h (by decide)
  | 25, _, h => exact absurd h (by decide)
  | 26, _, h => exact absurd h (by decide)
  | 27, _, h => exact absurd h (by decide)
  | 28, _, h => exact absurd h (by decide)
  | 29, _, h => exact absurd h (by decide)
  | 30, _, h => exact rfl
  | 31, _, h => exact absurd h (by decide)
  | 32, _, h => exact absurd h (by decide)
  | 33, _, h => exact absurd h (by decide)
  | 34, _, h => exact absurd h (by decide)
  | 35, _, h => exact absurd h (by decide)
  | 36, _, h => exact absurd h (by decide)
  | 37, _, h => exact rfl
  | 38, _, h => exact absurd h (by decide)
  | 39, _, h => exact absurd h (by decide)
  | 40, _, h => exact absurd h (by decide)
  | 41, _, h => exact absurd h (by decide)
  | 42, _, h => exact absurd h (by decide)
  | 43, _, h => exact absurd h (by decide)
  | 44, _, h => exact absurd h (by decide)
  | 45, _, h => exact absurd h (by decide)
  | 46, _, h => exact absurd h (by decide)
  | 47, _, h => exact absurd h (by decide)
  | 48, _, h => exact absurd h (by decide)
  | 49, _, h => exact absurd h (by decide)
  | 50, _, h => exact absurd h (by decide)
  | 51, _, h => exact absurd h (by decide)
  | 52, _, h => exact absurd h (by decide)
  | 53, _, h => exact absurd h (by decide)
  | k + 54, hk, _ => exact absurd hk (by omega)
theorem mfl_int (m0 : Nat) (M : Mem) : ∀ k, k < 54 → (rK.getD k 9 = 0 ∨ rK.getD k 9 = 1) → (mfl m0 M)[k]? = some (.int (M k 0)) := by
  intro k hk h
  match k, hk, h with
  | 0, _, h => exact rfl
  | 1, _, h => exact rfl
  | 2, _, h => exact absurd h (by decide)
  | 3, _, h => exact absurd h (by decide)
  | 4, _, h => exact absurd h (by decide)
  | 5, _, h => exact rfl
  | 6, _, h => exact absurd h (by decide)
  | 7, _, h => exact rfl
  | 8, _, h => exact rfl
  | 9, _, h => exact rfl
  | 10, _, h => exact rfl
  | 11, _, h => exact rfl
  | 12, _, h => exact absurd h (by decide)
  | 13, _, h => exact absurd h (by decide)
  | 14, _, h => exact rfl
  | 15, _, h => exact absurd h (by decide)
  | 16, _, h => exact absurd h (by decide)
  | 17, _, h => exact absurd h (by decide)
  | 18, _, h => exact absurd h (by decide)
  | 19, _, h => exact absurd h (by decide)
  | 20, _, h => exact absurd h (by decide)
  | 21, _, h => exact absurd h (by decide)
  | 22, _, h => exact rfl
  | 23, _, h => exact absurd h (by decide)
  | 24, _, h => exact absurd h (by decide)
  | 25, _, h => exact absurd h (by decide)
  | 26, _, h => exact absurd h (by decide)
  | 27, _, h => exact absurd h (by decide)
  | 28, _, h => exact rfl
  | 29, _, h => exact absurd h (by decide)
  | 30, _, h => exact absurd h (by decide)
  | 31, _, h => exact absurd h (by decide)
  | 32, _, h => exact absurd h (by decide)
  | 33, _, h => exact absurd h (by decide)
  | 34, _, h => exact absurd h (by decide)
  | 35, _, h => exact absurd h (by decide)
  | 36, _, h => exact absurd h (by decide)
  | 37, _, h => exact absurd h (by decide)
  | 38, _, h => exact absurd h (by decide)
  | 39, _, h => exact rfl
  | 40, _, h => exact rfl
  | 41, _, h => exact rfl
  | 42, _, h => exact rfl
  | 43, _, h => exact rfl
  | 44, _, h => exact rfl
  | 45, _, h => exact rfl
  | 46, _, h => exact rfl
  | 47, _, h => exact absurd h (by decide)
  | 48, _, h => exact absurd h (by decide)
  | 49, _, h => exact absurd h (by decide)
  | 50, _, h => exact absurd h (by decide)
  | 51, _, h => exact absurd h (by decide)
  | 52, _, h => exact rfl
  | 53, _, h => exact rfl
  | k + 54, hk, _ => exact absurd hk (by omega)
theorem mfl_arr (m0 : Nat) (M : Mem) : ∀ k, k < 54 → (rK.getD k 9 = 2 ∨ rK.getD k 9 = 3) → (mfl m0 M)[k]? = some (.ref (m0 + rO.getD k 0)) := by
  intro k hk h
  match k, hk, h with
  | 0, _, h => exact absurd h (by decide)
  | 1, _, h => exact absurd h (by decide)
  | 2, _, h => exact rfl
  | 3, _, h => exact rfl
  | 4, _, h => exact rfl
  | 5, _, h => exact absurd h (by decide)
  | 6, _, h => exact rfl
  | 7, _, h => exact absurd h (by decide)
  | 8, _, h => exact absurd h (by decide)
  | 9, _, h => exact absurd h (by decide)
  | 10, _, h => exact absurd h (by decide)
  | 11, _, h => exact absurd h (by decide)
  | 12, _, h => exact rfl
  | 13, _, h => exact rfl
  | 14, _, h => exact absurd h (by decide)
  | 15, _, h => exact rfl
  | 16, _, h => exact rfl
  | 17, _, h => exact rfl
  | 18, _, h => exact rfl
  | 19, _, h => exact rfl
  | 20, _, h => exact rfl
  | 21, _, h => exact rfl
  | 22, _, h => exact absurd h (by decide)
  | 23, _, h => exact rfl
  | 24, _, h => exact rfl
  | 25, _, h => exact rfl
  | 26, _, h => exact rfl
  | 27, _, h => exact rfl
  | 28, _, h => exact absurd h (by decide)
  | 29, _, h => exact rfl
  | 30, _, h => exact rfl
  | 31, _, h => exact rfl
  | 32, _, h => exact rfl
  | 33, _, h => exact rfl
  | 34, _, h => exact rfl
  | 35, _, h => exact rfl
  | 36, _, h => exact rfl
  | 37, _, h => exact rfl
  | 38, _, h => exact rfl
  | 39, _, h => exact absurd h (by decide)
  | 40, _, h => exact absurd h (by decide)
  | 41, _, h => exact absurd h (by decide)
  | 42, _, h => exact absurd h (by decide)
  | 43, _, h => exact absurd h (by decide)
  | 44, _, h => exact absurd h (by decide)
  | 45, _, h => exact absurd h (by decide)
  | 46, _, h => exact absurd h (by decide)
  | 47, _, h => exact rfl
  | 48, _, h => exact rfl
  | 49, _, h => exact rfl
  | 50, _, h => exact rfl
  | 51, _, h => exact rfl
  | 52, _, h => exact absurd h (by decide)
  | 53, _, h => exact absurd h (by decide)
  | k + 54, hk, _ => exact absurd hk (by omega)
theorem mcs_at2 (m0 : Nat) (M : Mem) : ∀ k, k < 54 → rK.getD k 9 = 2 → (mcs m0 M)[rO.getD k 0]? = some (aI (rN.getD k 0) (M k)) := by
  intro k hk h
  match k, hk, h with
  | 0, _, h => exact absurd h (by decide)
  | 1, _, h => exact absurd h (by decide)
  | 2, _, h => exact rfl
  | 3, _, h => exact rfl
  | 4, _, h => exact rfl
  | 5, _, h => exact absurd h (by decide)
  | 6, _, h => exact rfl
  | 7, _, h => exact absurd h (by decide)
  | 8, _, h => exact absurd h (by decide)
  | 9, _, h => exact absurd h (by decide)
  | 10, _, h => exact absurd h (by decide)
  | 11, _, h => exact absurd h (by decide)
  | 12, _, h => exact rfl
  | 13, _, h => exact rfl
  | 14, _, h => exact absurd h (by decide)
  | 15, _, h => exact rfl
  | 16, _, h => exact rfl
  | 17, _, h => exact rfl
  | 18, _, h => exact rfl
  | 19, _, h => exact rfl
  | 20, _, h => exact rfl
  | 21, _, h => exact rfl
  | 22, _, h => exact absurd h (by decide)
  | 23, _, h => exact rfl
  | 24, _, h => exact rfl
  | 25, _, h => exact rfl
  | 26, _, h => exact rfl
  | 27, _, h => exact rfl
  | 28, _, h => exact absurd h (by decide)
  | 29, _, h => exact rfl
  | 30, _, h => exact absurd h (by decide)
  | 31, _, h => exact rfl
  | 32, _, h => exact rfl
  | 33, _, h => exact rfl
  | 34, _, h => exact rfl
  | 35, _, h => exact rfl
  | 36, _, h => exact rfl
  | 37, _, h => exact absurd h (by decide)
  | 38, _, h => exact rfl
  | 39, _, h => exact absurd h (by decide)
  | 40, _, h => exact absurd h (by decide)
  | 41, _, h => exact absurd h (by decide)
  | 42, _, h => exact absurd h (by decide)
  | 43, _, h => exact absurd h (by decide)
  | 44, _, h => exact absurd h (by decide)
  | 45, _, h => exact absurd h (by decide)
  | 46, _, h => exact absurd h (by decide)
  | 47, _, h => exact rfl
  | 48, _, h => exact rfl
  | 49, _, h => exact rfl
  | 50, _, h => exact rfl
  | 51, _, h => exact rfl
  | 52, _, h => exact absurd h (by decide)
  | 53, _, h => exact absurd h (by decide)
  | k + 54, hk, _ => exact absurd hk (by omega)
theorem mcs_at3 (m0 : Nat) (M : Mem) : ∀ k, k < 54 → rK.getD k 9 = 3 → (mcs m0 M)[rO.getD k 0]? = some (aZ (rN.getD k 0) (M k)) := by
  intro k hk h
  match k, hk, h with
  | 0, _, h => exact absurd h (by decide)
  | 1, _, h => exact absurd h (by decide)
  | 2, _, h => exact absurd h (by decide)
  | 3, _, h => exact absurd h (by decide)
  | 4, _, h => exact absurd h (by decide)
  | 5, _, h => exact absurd h (by decide)
  | 6, _, h => exact absurd h (by decide)
  | 7, _, h => exact absurd h (by decide)
  | 8, _, h => exact absurd h (by decide)
  | 9, _, h => exact absurd h (by decide)
  | 10, _, h => exact absurd h (by decide)
  | 11, _, h => exact absurd h (by decide)
  | 12, _, h => exact absurd h (by decide)
  | 13, _, h => exact absurd h (by decide)
  | 14, _, h => exact absurd h (by decide)
  | 15, _, h => exact absurd h (by decide)
  | 16, _, h => exact absurd h (by decide)
  | 17, _, h => exact absurd h (by decide)
  | 18, _, h => exact absurd h (by decide)
  | 19, _, h => exact absurd h (by decide)
  | 20, _, h => exact absurd h (by decide)
  | 21, _, h => exact absurd h (by decide)
  | 22, _, h => exact absurd h (by decide)
  | 23, _, h => exact absurd h (by decide)
  | 24, _, h => exact absurd h (by decide)
  | 25, _, h => exact absurd h (by decide)
  | 26, _, h => exact absurd h (by decide)
  | 27, _, h => exact absurd h (by decide)
  | 28, _, h => exact absurd h (by decide)
  | 29, _, h => exact absurd h (by decide)
  | 30, _, h => exact rfl
  | 31, _, h => exact absurd h (by decide)
  | 32, _, h => exact absurd h (by decide)
  | 33, _, h => exact absurd h (by decide)
  | 34, _, h => exact absurd h (by decide)
  | 35, _, h => exact absurd h (by decide)
  | 36, _, h => exact absurd h (by decide)
  | 37, _, h => exact rfl
  | 38, _, h => exact absurd h (by decide)
  | 39, _, h => exact absurd h (by decide)
  | 40, _, h => exact absurd h (by decide)
  | 41, _, h => exact absurd h (by decide)
  | 42, _, h => exact absurd h (by decide)
  | 43, _, h => exact absurd h (by decide)
  | 44, _, h => exact absurd h (by decide)
  | 45, _, h => exact absurd h (by decide)
  | 46, _, h => exact absurd h (by decide)
  | 47, _, h => exact absurd h (by decide)
  | 48, _, h => exact absurd h (by decide)
  | 49, _, h => exact absurd h (by decide)
  | 50, _, h => exact absurd h (by decide)
  | 51, _, h => exact absurd h (by decide)
  | 52, _, h => exact absurd h (by decide)
  | 53, _, h => exact absurd h (by decide)
  | k + 54, hk, _ => exact absurd hk (by omega)
theorem mcs_len (m0 : Nat) (M : Mem) : (mcs m0 M).length = 34 := rfl
theorem mfl_len (m0 : Nat) (M : Mem) : (mfl m0 M).length = 54 := rfl
/-- a heap with the reference's cells at i0 -/
def putM (z i0 : Nat) (M : Mem) (σ : Hp) : Hp := σ.take i0 ++ (mcs (z + i0) M ++ σ.drop (i0 + 34))
theorem putM_len {z i0 : Nat} {M : Mem} {σ : Hp} (h : i0 + 34 ≤ σ.length) : (putM z i0 M σ).length = σ.length := by
  simp only [putM, List.length_append, List.length_take, List.length_drop, mcs_len]
  omega
theorem putM_in {z i0 c : Nat} {M : Mem} {σ : Hp} (h : i0 + 34 ≤ σ.length) (hc : c < 34) : (putM z i0 M σ)[i0 + c]? = (mcs (z + i0) M)[c]? := by
  rw [putM, List.getElem?_append_right (by rw [List.length_take]; omega), List.length_take, show i0 + c - min i0 σ.length = c by omega, List.getElem?_append_left (by rw [mcs_len]; exact hc)]
theorem putM_set {z i0 c : Nat} {M M' : Mem} {σ : Hp} {x : va_E} (h : i0 + 34 ≤ σ.length) (hc : c < 34) (hx : (mcs (z + i0) M).set c x = mcs (z + i0) M') : (putM z i0 M σ).set (i0 + c) x = putM z i0 M' σ := by
  have hl : (σ.take i0).length = i0 := by rw [List.length_take]; omega
  unfold putM
  rw [List.set_append_right _ _ (by omega), hl, show i0 + c - i0 = c by omega, List.set_append_left _ _ (by rw [mcs_len]; exact hc), hx]
theorem putM_out {z i0 k : Nat} {M : Mem} {σ : Hp} (h : i0 + 34 ≤ σ.length) (hk : k < i0 ∨ i0 + 34 ≤ k) : (putM z i0 M σ)[k]? = σ[k]? := by
  have hl : (σ.take i0).length = i0 := by rw [List.length_take]; omega
  unfold putM
  rcases hk with hk | hk
  · rw [List.getElem?_append_left (by omega), List.getElem?_take_of_lt hk]
  · rw [List.getElem?_append_right (by omega), hl, List.getElem?_append_right (by rw [mcs_len]; omega), mcs_len, List.getElem?_drop]
    congr 1
    omega
theorem putM_put {z i0 : Nat} {M M' : Mem} {σ : Hp} (h : i0 + 34 ≤ σ.length) : putM z i0 M' (putM z i0 M σ) = putM z i0 M' σ := by
  apply List.ext_getElem?
  intro k
  by_cases hk : i0 ≤ k ∧ k < i0 + 34
  · have e : k = i0 + (k - i0) := by omega
    rw [e, putM_in (by rw [putM_len h]; exact h) (by omega), putM_in h (by omega)]
  · have hk' : k < i0 ∨ i0 + 34 ≤ k := by omega
    rw [putM_out (by rw [putM_len h]; exact h) hk', putM_out h hk', putM_out h hk']
theorem putM_cel {z b L i0 c : Nat} {xs : Nat → Int32} {M : Mem} {σ : Hp} (h : i0 + 34 ≤ σ.length) (hc : c < 34) : cel z b L xs (putM z i0 M σ) (z + i0 + c) = (mcs (z + i0) M)[c]? := by
  unfold cel
  rw [if_pos (by omega), show z + i0 + c - z = i0 + c by omega, putM_in h hc]
theorem putM_upc {z i0 c : Nat} {M M' : Mem} {σ : Hp} {x : va_E} (h : i0 + 34 ≤ σ.length) (hc : c < 34) (hx : (mcs (z + i0) M).set c x = mcs (z + i0) M') : upc z (putM z i0 M σ) (z + i0 + c) x = putM z i0 M' σ := by
  unfold upc
  rw [show z + i0 + c - z = i0 + c by omega]
  exact putM_set h hc hx
abbrev Rrel : Type := Nat → List Value → Mem → Option Value → Mem → Prop
/-- one instruction of the reference; .ref 0 is the object itself, .ref k the array of its field k -/
def insR (C : Rrel) (oc : Nat) (rt : Option FieldType) (Qr : Option Value → Mem → Prop) (K : Nat → Lv → List Value → Mem → Prop) (pc : Nat) (lv : Lv) (st : List Value) (M : Mem) : Instr → Prop
  | .iconst n => K (pc + 1) lv (.int (Int32.ofInt n) :: st) M
  | .bipush n => K (pc + 2) lv (.int (Int8.ofInt n).toInt32 :: st) M
  | .sipush n => K (pc + 3) lv (.int (Int16.ofInt n).toInt32 :: st) M
  | .lconst n => K (pc + 1) lv (.long (Int64.ofNat n.val) :: st) M
  | .ldc i => match kres oc i with
    | some (v, _) => K (pc + 2) lv (.int v :: st) M
    | none => False
  | .ldc2_w i => match jres oc i with
    | some (v, _) => K (pc + 3) lv (.long v :: st) M
    | none => False
  | .iload_n i => match lv.lookup i.val with
    | some (.int x) => K (pc + 1) lv (.int x :: st) M
    | _ => False
  | .iload i => match lv.lookup i with
    | some (.int x) => K (pc + 2) lv (.int x :: st) M
    | _ => False
  | .lload_n i => match lv.lookup i.val with
    | some (.long x) => K (pc + 1) lv (.long x :: st) M
    | _ => False
  | .lload i => match lv.lookup i with
    | some (.long x) => K (pc + 2) lv (.long x :: st) M
    | _ => False
  | .istore_n i => match st with
    | .int x :: r => K (pc + 1) (lvs i.val (.int x) lv) r M
    | _ => False
  | .istore i => match st with
    | .int x :: r => K (pc + 2) (lvs i (.int x) lv) r M
    | _ => False
  | .lstore_n i => match st with
    | .long x :: r => K (pc + 1) (lvl i.val (.long x) lv) r M
    | _ => False
  | .lstore i => match st with
    | .long x :: r => K (pc + 2) (lvl i (.long x) lv) r M
    | _ => False
  | .iinc i n => match lv.lookup i with
    | some (.int x) => K (pc + 3) (lvs i (.int (x + Int32.ofInt n)) lv) st M
    | _ => False
  | .iadd => match st with
    | .int y :: .int x :: r => K (pc + 1) lv (.int (x + y) :: r) M
    | _ => False
  | .isub => match st with
    | .int y :: .int x :: r => K (pc + 1) lv (.int (x - y) :: r) M
    | _ => False
  | .imul => match st with
    | .int y :: .int x :: r => K (pc + 1) lv (.int (x * y) :: r) M
    | _ => False
  | .iand => match st with
    | .int y :: .int x :: r => K (pc + 1) lv (.int (x &&& y) :: r) M
    | _ => False
  | .ineg => match st with
    | .int x :: r => K (pc + 1) lv (.int (-x) :: r) M
    | _ => False
  | .ladd => match st with
    | .long y :: .long x :: r => K (pc + 1) lv (.long (x + y) :: r) M
    | _ => False
  | .lsub => match st with
    | .long y :: .long x :: r => K (pc + 1) lv (.long (x - y) :: r) M
    | _ => False
  | .lmul => match st with
    | .long y :: .long x :: r => K (pc + 1) lv (.long (x * y) :: r) M
    | _ => False
  | .ldiv => match st with
    | .long y :: .long x :: r => ¬ y = 0 ∧ K (pc + 1) lv (.long (x / y) :: r) M
    | _ => False
  | .lrem => match st with
    | .long y :: .long x :: r => ¬ y = 0 ∧ K (pc + 1) lv (.long (x - x / y * y) :: r) M
    | _ => False
  | .lcmp => match st with
    | .long y :: .long x :: r => K (pc + 1) lv (.int (lg_cmp x y) :: r) M
    | _ => False
  | .i2l => match st with
    | .int x :: r => K (pc + 1) lv (.long x.toInt64 :: r) M
    | _ => False
  | .l2i => match st with
    | .long x :: r => K (pc + 1) lv (.int x.toInt32 :: r) M
    | _ => False
  | .goto f => K (jt pc f) lv st M
  | .ifCond c f => match st with
    | .int x :: r => (icc c x 0 → K (jt pc f) lv r M) ∧ (¬ icc c x 0 → K (pc + 3) lv r M)
    | _ => False
  | .if_icmp c f => match st with
    | .int y :: .int x :: r => (icc c x y → K (jt pc f) lv r M) ∧ (¬ icc c x y → K (pc + 3) lv r M)
    | _ => False
  | .tableswitch d lo hi offs => match st with
    | .int x :: r => K (jt pc (swt d lo hi offs x.toInt)) lv r M
    | _ => False
  | .lookupswitch d ps => match st with
    | .int x :: r => K (jt pc (Op.lookupswitch.offset ps.toList d x.toInt)) lv r M
    | _ => False
  | .aload_n i => match lv.lookup i.val with
    | some (.ref x) => K (pc + 1) lv (.ref x :: st) M
    | _ => False
  | .dup => match st with
    | .ref x :: r => K (pc + 1) lv (.ref x :: .ref x :: r) M
    | _ => False
  | .dup2 => match st with
    | .int y :: .ref x :: r => K (pc + 1) lv (.int y :: .ref x :: .int y :: .ref x :: r) M
    | _ => False
  | .getfield i => match fres oc i, st with
    | some (9, k, _), .ref 0 :: r => match rK.getD k 9 with
      | 0 => K (pc + 3) lv (.int (M k 0) :: r) M
      | 1 => K (pc + 3) lv (.int (M k 0) :: r) M
      | 2 => K (pc + 3) lv (.ref k :: r) M
      | 3 => K (pc + 3) lv (.ref k :: r) M
      | _ => False
    | _, _ => False
  | .putfield i => match fres oc i, st with
    | some (9, k, _), .int x :: .ref 0 :: r => match rK.getD k 9 with
      | 0 => K (pc + 3) lv r (up2 M k 0 x)
      | 1 => (x = 0 ∨ x = 1) ∧ K (pc + 3) lv r (up2 M k 0 x)
      | _ => False
    | _, _ => False
  | .iaload => match st with
    | .int i :: .ref k :: r => match rK.getD k 9 with
      | 2 => vp_in i (rN.getD k 0) ∧ K (pc + 1) lv (.int (M k i.toNatClampNeg) :: r) M
      | _ => False
    | _ => False
  | .baload => match st with
    | .int i :: .ref k :: r => match rK.getD k 9 with
      | 3 => vp_in i (rN.getD k 0) ∧ K (pc + 1) lv (.int (M k i.toNatClampNeg) :: r) M
      | _ => False
    | _ => False
  | .iastore => match st with
    | .int x :: .int i :: .ref k :: r => match rK.getD k 9 with
      | 2 => vp_in i (rN.getD k 0) ∧ K (pc + 1) lv r (up2 M k i.toNatClampNeg x)
      | _ => False
    | _ => False
  | .bastore => match st with
    | .int x :: .int i :: .ref k :: r => match rK.getD k 9 with
      | 3 => vp_in i (rN.getD k 0) ∧ (x = 0 ∨ x = 1) ∧ K (pc + 1) lv r (up2 M k i.toNatClampNeg x)
      | _ => False
    | _ => False
  | .ireturn => match st, rt with
    | [.int x], some ty => fitV ty (.int x) ∧ Qr (some (.int x)) M
    | _, _ => False
  | .return_ => match st, rt with
    | [], none => Qr none M
    | _, _ => False
  | .invokevirtual i => match mres oc i with
    | some (0, j, _) => match prog[j]? with
      | some md => md.2.2.2.2.2.1 = 9 ∧ st[md.2.2.2.2.1]? = some (.ref 0) ∧ wgt (st.drop (md.2.2.2.2.1 + 1)) ≤ 8 ∧ ∃ (v : Option Value) (M1 : Mem), (∀ a, v ≠ some (.ref a)) ∧ C j (.ref 0 :: (st.take md.2.2.2.2.1).reverse) M v M1 ∧ K (pc + 3) lv (v.toList ++ st.drop (md.2.2.2.2.1 + 1)) M1
      | none => False
    | _ => False
  | .invokestatic i => match mres oc i with
    | some (1, j, _) => match prog[j]? with
      | some md => md.2.2.2.2.1 ≤ st.length ∧ wgt (st.drop md.2.2.2.2.1) ≤ 8 ∧ ∃ (v : Option Value) (M1 : Mem), (∀ a, v ≠ some (.ref a)) ∧ C j (st.take md.2.2.2.2.1).reverse M v M1 ∧ K (pc + 3) lv (v.toList ++ st.drop md.2.2.2.2.1) M1
      | none => False
    | _ => False
  | _ => False
def wpR (C : Rrel) (t : List (Nat × Instr × Nat)) (oc : Nat) (rt : Option FieldType) (Qr : Option Value → Mem → Prop) : Nat → Nat → Lv → List Value → Mem → Prop
  | 0, _, _, _, _ => False
  | n + 1, pc, lv, st, M => match t.lookup pc with
    | some q => insR C oc rt Qr (wpR C t oc rt Qr n) pc lv st M q.1
    | none => False
/-- a call of the reference's, d deep at the most -/
def CalR : Nat → Rrel
  | 0, _, _, _, _, _ => False
  | d + 1, j, av, M, v, M1 => match prog[j]? with
    | some md => (lg_sl av).length ≤ md.2.2.1 ∧ ∃ n, wpR (CalR d) md.2.2.2.2.2.2.2 md.2.2.2.2.2.1 md.2.2.2.1 (fun v' M' => v' = v ∧ M' = M1) n 0 (lv_args 0 av) [] M
    | none => False
theorem rty_0 {k : Nat} (h : rK.getD k 9 = 0) : (fTy.getD 9 []).getD k .int = .int := by
  have h1 : (List.range 54).all (fun k => decide (rK.getD k 9 = 0 → (fTy.getD 9 []).getD k .int = .int)) = true := by decide +kernel
  by_cases hk : k < 54
  · exact of_decide_eq_true (List.all_eq_true.mp h1 k (List.mem_range.mpr hk)) h
  · rw [List.getD_eq_getElem?_getD, List.getElem?_eq_none (by show 54 ≤ k; omega)] at h
    cases h
theorem rty_1 {k : Nat} (h : rK.getD k 9 = 1) : (fTy.getD 9 []).getD k .int = .boolean := by
  have h1 : (List.range 54).all (fun k => decide (rK.getD k 9 = 1 → (fTy.getD 9 []).getD k .int = .boolean)) = true := by decide +kernel
  by_cases hk : k < 54
  · exact of_decide_eq_true (List.all_eq_true.mp h1 k (List.mem_range.mpr hk)) h
  · rw [List.getD_eq_getElem?_getD, List.getElem?_eq_none (by show 54 ≤ k; omega)] at h
    cases h
