/-! ===== the reference: link ===== -/
def amx (k : Nat) : Nat := if k = 13 ∨ k = 14 ∨ k = 28 ∨ k = 33 then 199 else if k = 15 ∨ k = 16 ∨ k = 17 ∨ k = 18 ∨ k = 34 then 15 else if k = 21 ∨ k = 22 ∨ k = 23 ∨ k = 24 ∨ k = 29 then 63 else 0
/-- a word's a is in its range -/
def fA (k : Nat) (x : Int32) : Bool := if k = 1 then decide ((-1073741824 : Int32) ≤ x ∧ x ≤ 1073741823) else if k = 27 then decide (x = 0 ∨ x = 1 ∨ x = 3) else decide (nI 0 ≤ x ∧ x ≤ nI (amx k))
def fB (k : Nat) (x y : Int32) : Bool := if k = 29 then decide (nI 0 ≤ y ∧ y ≤ nI 8) else if k = 34 then decide ((nI 0 ≤ y ∧ y ≤ nI 15) ∧ x + y ≤ nI 15) else decide (y = 0)
theorem b2i_dec {p : Prop} [Decidable p] : (if p then (1 : Int32) else 0) = b2i (decide p) := by
  unfold b2i
  by_cases h : p
  · simp [h]
  · simp [h]
theorem b01 {p : Prop} [Decidable p] : fitV .boolean (.int (if p then 1 else 0)) := by
  by_cases h : p
  · rw [if_pos h]; exact Or.inr rfl
  · rw [if_neg h]; exact Or.inl rfl
theorem le0_iff {x : Int32} : (nI 0 ≤ x ∧ x ≤ nI 0) ↔ x = 0 := by
  constructor
  · rintro ⟨a, b⟩
    exact Int32.le_antisymm b a
  · rintro rfl
    exact ⟨by decide, by decide⟩
theorem r_aF0 {d : Nat} {M : Mem} {x : Int32} : CalR (d + 2) j_X9_aFits [.int (nI 0), .int x] M (some (.int (b2i (fA 0 x)))) M := by
  have e : fA 0 x = decide (nI 0 ≤ x ∧ x ≤ nI 0) := rfl
  rw [e, ← b2i_dec]
  by_cases h : x = 0
  · rw [if_pos (le0_iff.mpr h)]
    refine CalR_of (md := md_X9_aFits) (d := d + 1) rfl (Nat.le_of_ble_eq_true rfl) ?_
    show WR (CalR (d + 1)) t_X9_aFits 9 (some .boolean) _ 0 [(0, .int (nI 0)), (1, .int x)] [] _
    refine R_iload_n rfl rfl ?_
    refine R_table (pc' := 206) rfl (by decide) ?_
    refine R_iload_n rfl rfl ?_
    refine R_ifF rfl (fun q => q h) ?_
    refine R_iconst (y := nI 1) rfl (by decide) ?_
    refine R_goto (pc' := 215) rfl rfl ?_
    exact R_iret rfl rfl (by first | trivial | exact Or.inl rfl | exact Or.inr rfl | assumption | exact b01) ⟨rfl, rfl⟩
  · rw [if_neg (fun q => h (le0_iff.mp q))]
    refine CalR_of (md := md_X9_aFits) (d := d + 1) rfl (Nat.le_of_ble_eq_true rfl) ?_
    show WR (CalR (d + 1)) t_X9_aFits 9 (some .boolean) _ 0 [(0, .int (nI 0)), (1, .int x)] [] _
    refine R_iload_n rfl rfl ?_
    refine R_table (pc' := 206) rfl (by decide) ?_
    refine R_iload_n rfl rfl ?_
    refine R_ifT (pc' := 214) rfl rfl (h) ?_
    refine R_iconst (y := nI 0) rfl (by decide) ?_
    exact R_iret rfl rfl (by first | trivial | exact Or.inl rfl | exact Or.inr rfl | assumption | exact b01) ⟨rfl, rfl⟩
theorem r_aF1 {d : Nat} {M : Mem} {x : Int32} : CalR (d + 2) j_X9_aFits [.int (nI 1), .int x] M (some (.int (b2i (fA 1 x)))) M := by
  have e : fA 1 x = decide ((-1073741824 : Int32) ≤ x ∧ x ≤ 1073741823) := rfl
  rw [e, ← b2i_dec]
  refine CalR_of (md := md_X9_aFits) (d := d + 1) rfl (Nat.le_of_ble_eq_true rfl) ?_
  show WR (CalR (d + 1)) t_X9_aFits 9 (some .boolean) _ 0 [(0, .int (nI 1)), (1, .int x)] [] _
  refine R_iload_n rfl rfl ?_
  refine R_table (pc' := 152) rfl (by decide) ?_
  refine R_iload_n rfl rfl ?_
  refine R_ldc rfl rfl ?_
  refine R_ldc rfl rfl ?_
  refine R_stat rfl rfl rfl (Nat.le_of_ble_eq_true rfl) rfl rfl (Nat.le_of_ble_eq_true rfl) (fun _ q => by cases q) (r_isIn) ?_
  try refine R_top (y := nI _) (by assumption) ?_
  exact R_iret rfl rfl (by first | trivial | exact Or.inl rfl | exact Or.inr rfl | assumption | exact b01) ⟨rfl, rfl⟩
theorem r_aF2 {d : Nat} {M : Mem} {x : Int32} : CalR (d + 2) j_X9_aFits [.int (nI 2), .int x] M (some (.int (b2i (fA 2 x)))) M := by
  have e : fA 2 x = decide (nI 0 ≤ x ∧ x ≤ nI 0) := rfl
  rw [e, ← b2i_dec]
  by_cases h : x = 0
  · rw [if_pos (le0_iff.mpr h)]
    refine CalR_of (md := md_X9_aFits) (d := d + 1) rfl (Nat.le_of_ble_eq_true rfl) ?_
    show WR (CalR (d + 1)) t_X9_aFits 9 (some .boolean) _ 0 [(0, .int (nI 2)), (1, .int x)] [] _
    refine R_iload_n rfl rfl ?_
    refine R_table (pc' := 206) rfl (by decide) ?_
    refine R_iload_n rfl rfl ?_
    refine R_ifF rfl (fun q => q h) ?_
    refine R_iconst (y := nI 1) rfl (by decide) ?_
    refine R_goto (pc' := 215) rfl rfl ?_
    exact R_iret rfl rfl (by first | trivial | exact Or.inl rfl | exact Or.inr rfl | assumption | exact b01) ⟨rfl, rfl⟩
  · rw [if_neg (fun q => h (le0_iff.mp q))]
    refine CalR_of (md := md_X9_aFits) (d := d + 1) rfl (Nat.le_of_ble_eq_true rfl) ?_
    show WR (CalR (d + 1)) t_X9_aFits 9 (some .boolean) _ 0 [(0, .int (nI 2)), (1, .int x)] [] _
    refine R_iload_n rfl rfl ?_
    refine R_table (pc' := 206) rfl (by decide) ?_
    refine R_iload_n rfl rfl ?_
    refine R_ifT (pc' := 214) rfl rfl (h) ?_
    refine R_iconst (y := nI 0) rfl (by decide) ?_
    exact R_iret rfl rfl (by first | trivial | exact Or.inl rfl | exact Or.inr rfl | assumption | exact b01) ⟨rfl, rfl⟩
theorem r_aF3 {d : Nat} {M : Mem} {x : Int32} : CalR (d + 2) j_X9_aFits [.int (nI 3), .int x] M (some (.int (b2i (fA 3 x)))) M := by
  have e : fA 3 x = decide (nI 0 ≤ x ∧ x ≤ nI 0) := rfl
  rw [e, ← b2i_dec]
  by_cases h : x = 0
  · rw [if_pos (le0_iff.mpr h)]
    refine CalR_of (md := md_X9_aFits) (d := d + 1) rfl (Nat.le_of_ble_eq_true rfl) ?_
    show WR (CalR (d + 1)) t_X9_aFits 9 (some .boolean) _ 0 [(0, .int (nI 3)), (1, .int x)] [] _
    refine R_iload_n rfl rfl ?_
    refine R_table (pc' := 206) rfl (by decide) ?_
    refine R_iload_n rfl rfl ?_
    refine R_ifF rfl (fun q => q h) ?_
    refine R_iconst (y := nI 1) rfl (by decide) ?_
    refine R_goto (pc' := 215) rfl rfl ?_
    exact R_iret rfl rfl (by first | trivial | exact Or.inl rfl | exact Or.inr rfl | assumption | exact b01) ⟨rfl, rfl⟩
  · rw [if_neg (fun q => h (le0_iff.mp q))]
    refine CalR_of (md := md_X9_aFits) (d := d + 1) rfl (Nat.le_of_ble_eq_true rfl) ?_
    show WR (CalR (d + 1)) t_X9_aFits 9 (some .boolean) _ 0 [(0, .int (nI 3)), (1, .int x)] [] _
    refine R_iload_n rfl rfl ?_
    refine R_table (pc' := 206) rfl (by decide) ?_
    refine R_iload_n rfl rfl ?_
    refine R_ifT (pc' := 214) rfl rfl (h) ?_
    refine R_iconst (y := nI 0) rfl (by decide) ?_
    exact R_iret rfl rfl (by first | trivial | exact Or.inl rfl | exact Or.inr rfl | assumption | exact b01) ⟨rfl, rfl⟩
theorem r_aF4 {d : Nat} {M : Mem} {x : Int32} : CalR (d + 2) j_X9_aFits [.int (nI 4), .int x] M (some (.int (b2i (fA 4 x)))) M := by
  have e : fA 4 x = decide (nI 0 ≤ x ∧ x ≤ nI 0) := rfl
  rw [e, ← b2i_dec]
  by_cases h : x = 0
  · rw [if_pos (le0_iff.mpr h)]
    refine CalR_of (md := md_X9_aFits) (d := d + 1) rfl (Nat.le_of_ble_eq_true rfl) ?_
    show WR (CalR (d + 1)) t_X9_aFits 9 (some .boolean) _ 0 [(0, .int (nI 4)), (1, .int x)] [] _
    refine R_iload_n rfl rfl ?_
    refine R_table (pc' := 206) rfl (by decide) ?_
    refine R_iload_n rfl rfl ?_
    refine R_ifF rfl (fun q => q h) ?_
    refine R_iconst (y := nI 1) rfl (by decide) ?_
    refine R_goto (pc' := 215) rfl rfl ?_
    exact R_iret rfl rfl (by first | trivial | exact Or.inl rfl | exact Or.inr rfl | assumption | exact b01) ⟨rfl, rfl⟩
  · rw [if_neg (fun q => h (le0_iff.mp q))]
    refine CalR_of (md := md_X9_aFits) (d := d + 1) rfl (Nat.le_of_ble_eq_true rfl) ?_
    show WR (CalR (d + 1)) t_X9_aFits 9 (some .boolean) _ 0 [(0, .int (nI 4)), (1, .int x)] [] _
    refine R_iload_n rfl rfl ?_
    refine R_table (pc' := 206) rfl (by decide) ?_
    refine R_iload_n rfl rfl ?_
    refine R_ifT (pc' := 214) rfl rfl (h) ?_
    refine R_iconst (y := nI 0) rfl (by decide) ?_
    exact R_iret rfl rfl (by first | trivial | exact Or.inl rfl | exact Or.inr rfl | assumption | exact b01) ⟨rfl, rfl⟩
theorem r_aF5 {d : Nat} {M : Mem} {x : Int32} : CalR (d + 2) j_X9_aFits [.int (nI 5), .int x] M (some (.int (b2i (fA 5 x)))) M := by
  have e : fA 5 x = decide (nI 0 ≤ x ∧ x ≤ nI 0) := rfl
  rw [e, ← b2i_dec]
  by_cases h : x = 0
  · rw [if_pos (le0_iff.mpr h)]
    refine CalR_of (md := md_X9_aFits) (d := d + 1) rfl (Nat.le_of_ble_eq_true rfl) ?_
    show WR (CalR (d + 1)) t_X9_aFits 9 (some .boolean) _ 0 [(0, .int (nI 5)), (1, .int x)] [] _
    refine R_iload_n rfl rfl ?_
    refine R_table (pc' := 206) rfl (by decide) ?_
    refine R_iload_n rfl rfl ?_
    refine R_ifF rfl (fun q => q h) ?_
    refine R_iconst (y := nI 1) rfl (by decide) ?_
    refine R_goto (pc' := 215) rfl rfl ?_
    exact R_iret rfl rfl (by first | trivial | exact Or.inl rfl | exact Or.inr rfl | assumption | exact b01) ⟨rfl, rfl⟩
  · rw [if_neg (fun q => h (le0_iff.mp q))]
    refine CalR_of (md := md_X9_aFits) (d := d + 1) rfl (Nat.le_of_ble_eq_true rfl) ?_
    show WR (CalR (d + 1)) t_X9_aFits 9 (some .boolean) _ 0 [(0, .int (nI 5)), (1, .int x)] [] _
    refine R_iload_n rfl rfl ?_
    refine R_table (pc' := 206) rfl (by decide) ?_
    refine R_iload_n rfl rfl ?_
    refine R_ifT (pc' := 214) rfl rfl (h) ?_
    refine R_iconst (y := nI 0) rfl (by decide) ?_
    exact R_iret rfl rfl (by first | trivial | exact Or.inl rfl | exact Or.inr rfl | assumption | exact b01) ⟨rfl, rfl⟩
theorem r_aF6 {d : Nat} {M : Mem} {x : Int32} : CalR (d + 2) j_X9_aFits [.int (nI 6), .int x] M (some (.int (b2i (fA 6 x)))) M := by
  have e : fA 6 x = decide (nI 0 ≤ x ∧ x ≤ nI 0) := rfl
  rw [e, ← b2i_dec]
  by_cases h : x = 0
  · rw [if_pos (le0_iff.mpr h)]
    refine CalR_of (md := md_X9_aFits) (d := d + 1) rfl (Nat.le_of_ble_eq_true rfl) ?_
    show WR (CalR (d + 1)) t_X9_aFits 9 (some .boolean) _ 0 [(0, .int (nI 6)), (1, .int x)] [] _
    refine R_iload_n rfl rfl ?_
    refine R_table (pc' := 206) rfl (by decide) ?_
    refine R_iload_n rfl rfl ?_
    refine R_ifF rfl (fun q => q h) ?_
    refine R_iconst (y := nI 1) rfl (by decide) ?_
    refine R_goto (pc' := 215) rfl rfl ?_
    exact R_iret rfl rfl (by first | trivial | exact Or.inl rfl | exact Or.inr rfl | assumption | exact b01) ⟨rfl, rfl⟩
  · rw [if_neg (fun q => h (le0_iff.mp q))]
    refine CalR_of (md := md_X9_aFits) (d := d + 1) rfl (Nat.le_of_ble_eq_true rfl) ?_
    show WR (CalR (d + 1)) t_X9_aFits 9 (some .boolean) _ 0 [(0, .int (nI 6)), (1, .int x)] [] _
    refine R_iload_n rfl rfl ?_
    refine R_table (pc' := 206) rfl (by decide) ?_
    refine R_iload_n rfl rfl ?_
    refine R_ifT (pc' := 214) rfl rfl (h) ?_
    refine R_iconst (y := nI 0) rfl (by decide) ?_
    exact R_iret rfl rfl (by first | trivial | exact Or.inl rfl | exact Or.inr rfl | assumption | exact b01) ⟨rfl, rfl⟩
theorem r_aF7 {d : Nat} {M : Mem} {x : Int32} : CalR (d + 2) j_X9_aFits [.int (nI 7), .int x] M (some (.int (b2i (fA 7 x)))) M := by
  have e : fA 7 x = decide (nI 0 ≤ x ∧ x ≤ nI 0) := rfl
  rw [e, ← b2i_dec]
  by_cases h : x = 0
  · rw [if_pos (le0_iff.mpr h)]
    refine CalR_of (md := md_X9_aFits) (d := d + 1) rfl (Nat.le_of_ble_eq_true rfl) ?_
    show WR (CalR (d + 1)) t_X9_aFits 9 (some .boolean) _ 0 [(0, .int (nI 7)), (1, .int x)] [] _
    refine R_iload_n rfl rfl ?_
    refine R_table (pc' := 206) rfl (by decide) ?_
    refine R_iload_n rfl rfl ?_
    refine R_ifF rfl (fun q => q h) ?_
    refine R_iconst (y := nI 1) rfl (by decide) ?_
    refine R_goto (pc' := 215) rfl rfl ?_
    exact R_iret rfl rfl (by first | trivial | exact Or.inl rfl | exact Or.inr rfl | assumption | exact b01) ⟨rfl, rfl⟩
  · rw [if_neg (fun q => h (le0_iff.mp q))]
    refine CalR_of (md := md_X9_aFits) (d := d + 1) rfl (Nat.le_of_ble_eq_true rfl) ?_
    show WR (CalR (d + 1)) t_X9_aFits 9 (some .boolean) _ 0 [(0, .int (nI 7)), (1, .int x)] [] _
    refine R_iload_n rfl rfl ?_
    refine R_table (pc' := 206) rfl (by decide) ?_
    refine R_iload_n rfl rfl ?_
    refine R_ifT (pc' := 214) rfl rfl (h) ?_
    refine R_iconst (y := nI 0) rfl (by decide) ?_
    exact R_iret rfl rfl (by first | trivial | exact Or.inl rfl | exact Or.inr rfl | assumption | exact b01) ⟨rfl, rfl⟩
theorem r_aF8 {d : Nat} {M : Mem} {x : Int32} : CalR (d + 2) j_X9_aFits [.int (nI 8), .int x] M (some (.int (b2i (fA 8 x)))) M := by
  have e : fA 8 x = decide (nI 0 ≤ x ∧ x ≤ nI 0) := rfl
  rw [e, ← b2i_dec]
  by_cases h : x = 0
  · rw [if_pos (le0_iff.mpr h)]
    refine CalR_of (md := md_X9_aFits) (d := d + 1) rfl (Nat.le_of_ble_eq_true rfl) ?_
    show WR (CalR (d + 1)) t_X9_aFits 9 (some .boolean) _ 0 [(0, .int (nI 8)), (1, .int x)] [] _
    refine R_iload_n rfl rfl ?_
    refine R_table (pc' := 206) rfl (by decide) ?_
    refine R_iload_n rfl rfl ?_
    refine R_ifF rfl (fun q => q h) ?_
    refine R_iconst (y := nI 1) rfl (by decide) ?_
    refine R_goto (pc' := 215) rfl rfl ?_
    exact R_iret rfl rfl (by first | trivial | exact Or.inl rfl | exact Or.inr rfl | assumption | exact b01) ⟨rfl, rfl⟩
  · rw [if_neg (fun q => h (le0_iff.mp q))]
    refine CalR_of (md := md_X9_aFits) (d := d + 1) rfl (Nat.le_of_ble_eq_true rfl) ?_
    show WR (CalR (d + 1)) t_X9_aFits 9 (some .boolean) _ 0 [(0, .int (nI 8)), (1, .int x)] [] _
    refine R_iload_n rfl rfl ?_
    refine R_table (pc' := 206) rfl (by decide) ?_
    refine R_iload_n rfl rfl ?_
    refine R_ifT (pc' := 214) rfl rfl (h) ?_
    refine R_iconst (y := nI 0) rfl (by decide) ?_
    exact R_iret rfl rfl (by first | trivial | exact Or.inl rfl | exact Or.inr rfl | assumption | exact b01) ⟨rfl, rfl⟩
theorem r_aF9 {d : Nat} {M : Mem} {x : Int32} : CalR (d + 2) j_X9_aFits [.int (nI 9), .int x] M (some (.int (b2i (fA 9 x)))) M := by
  have e : fA 9 x = decide (nI 0 ≤ x ∧ x ≤ nI 0) := rfl
  rw [e, ← b2i_dec]
  by_cases h : x = 0
  · rw [if_pos (le0_iff.mpr h)]
    refine CalR_of (md := md_X9_aFits) (d := d + 1) rfl (Nat.le_of_ble_eq_true rfl) ?_
    show WR (CalR (d + 1)) t_X9_aFits 9 (some .boolean) _ 0 [(0, .int (nI 9)), (1, .int x)] [] _
    refine R_iload_n rfl rfl ?_
    refine R_table (pc' := 206) rfl (by decide) ?_
    refine R_iload_n rfl rfl ?_
    refine R_ifF rfl (fun q => q h) ?_
    refine R_iconst (y := nI 1) rfl (by decide) ?_
    refine R_goto (pc' := 215) rfl rfl ?_
    exact R_iret rfl rfl (by first | trivial | exact Or.inl rfl | exact Or.inr rfl | assumption | exact b01) ⟨rfl, rfl⟩
  · rw [if_neg (fun q => h (le0_iff.mp q))]
    refine CalR_of (md := md_X9_aFits) (d := d + 1) rfl (Nat.le_of_ble_eq_true rfl) ?_
    show WR (CalR (d + 1)) t_X9_aFits 9 (some .boolean) _ 0 [(0, .int (nI 9)), (1, .int x)] [] _
    refine R_iload_n rfl rfl ?_
    refine R_table (pc' := 206) rfl (by decide) ?_
    refine R_iload_n rfl rfl ?_
    refine R_ifT (pc' := 214) rfl rfl (h) ?_
    refine R_iconst (y := nI 0) rfl (by decide) ?_
    exact R_iret rfl rfl (by first | trivial | exact Or.inl rfl | exact Or.inr rfl | assumption | exact b01) ⟨rfl, rfl⟩
theorem r_aF10 {d : Nat} {M : Mem} {x : Int32} : CalR (d + 2) j_X9_aFits [.int (nI 10), .int x] M (some (.int (b2i (fA 10 x)))) M := by
  have e : fA 10 x = decide (nI 0 ≤ x ∧ x ≤ nI 0) := rfl
  rw [e, ← b2i_dec]
  by_cases h : x = 0
  · rw [if_pos (le0_iff.mpr h)]
    refine CalR_of (md := md_X9_aFits) (d := d + 1) rfl (Nat.le_of_ble_eq_true rfl) ?_
    show WR (CalR (d + 1)) t_X9_aFits 9 (some .boolean) _ 0 [(0, .int (nI 10)), (1, .int x)] [] _
    refine R_iload_n rfl rfl ?_
    refine R_table (pc' := 206) rfl (by decide) ?_
    refine R_iload_n rfl rfl ?_
    refine R_ifF rfl (fun q => q h) ?_
    refine R_iconst (y := nI 1) rfl (by decide) ?_
    refine R_goto (pc' := 215) rfl rfl ?_
    exact R_iret rfl rfl (by first | trivial | exact Or.inl rfl | exact Or.inr rfl | assumption | exact b01) ⟨rfl, rfl⟩
  · rw [if_neg (fun q => h (le0_iff.mp q))]
    refine CalR_of (md := md_X9_aFits) (d := d + 1) rfl (Nat.le_of_ble_eq_true rfl) ?_
    show WR (CalR (d + 1)) t_X9_aFits 9 (some .boolean) _ 0 [(0, .int (nI 10)), (1, .int x)] [] _
    refine R_iload_n rfl rfl ?_
    refine R_table (pc' := 206) rfl (by decide) ?_
    refine R_iload_n rfl rfl ?_
    refine R_ifT (pc' := 214) rfl rfl (h) ?_
    refine R_iconst (y := nI 0) rfl (by decide) ?_
    exact R_iret rfl rfl (by first | trivial | exact Or.inl rfl | exact Or.inr rfl | assumption | exact b01) ⟨rfl, rfl⟩
theorem r_aF11 {d : Nat} {M : Mem} {x : Int32} : CalR (d + 2) j_X9_aFits [.int (nI 11), .int x] M (some (.int (b2i (fA 11 x)))) M := by
  have e : fA 11 x = decide (nI 0 ≤ x ∧ x ≤ nI 0) := rfl
  rw [e, ← b2i_dec]
  by_cases h : x = 0
  · rw [if_pos (le0_iff.mpr h)]
    refine CalR_of (md := md_X9_aFits) (d := d + 1) rfl (Nat.le_of_ble_eq_true rfl) ?_
    show WR (CalR (d + 1)) t_X9_aFits 9 (some .boolean) _ 0 [(0, .int (nI 11)), (1, .int x)] [] _
    refine R_iload_n rfl rfl ?_
    refine R_table (pc' := 206) rfl (by decide) ?_
    refine R_iload_n rfl rfl ?_
    refine R_ifF rfl (fun q => q h) ?_
    refine R_iconst (y := nI 1) rfl (by decide) ?_
    refine R_goto (pc' := 215) rfl rfl ?_
    exact R_iret rfl rfl (by first | trivial | exact Or.inl rfl | exact Or.inr rfl | assumption | exact b01) ⟨rfl, rfl⟩
  · rw [if_neg (fun q => h (le0_iff.mp q))]
    refine CalR_of (md := md_X9_aFits) (d := d + 1) rfl (Nat.le_of_ble_eq_true rfl) ?_
    show WR (CalR (d + 1)) t_X9_aFits 9 (some .boolean) _ 0 [(0, .int (nI 11)), (1, .int x)] [] _
    refine R_iload_n rfl rfl ?_
    refine R_table (pc' := 206) rfl (by decide) ?_
    refine R_iload_n rfl rfl ?_
    refine R_ifT (pc' := 214) rfl rfl (h) ?_
    refine R_iconst (y := nI 0) rfl (by decide) ?_
    exact R_iret rfl rfl (by first | trivial | exact Or.inl rfl | exact Or.inr rfl | assumption | exact b01) ⟨rfl, rfl⟩
theorem r_aF12 {d : Nat} {M : Mem} {x : Int32} : CalR (d + 2) j_X9_aFits [.int (nI 12), .int x] M (some (.int (b2i (fA 12 x)))) M := by
  have e : fA 12 x = decide (nI 0 ≤ x ∧ x ≤ nI 0) := rfl
  rw [e, ← b2i_dec]
  by_cases h : x = 0
  · rw [if_pos (le0_iff.mpr h)]
    refine CalR_of (md := md_X9_aFits) (d := d + 1) rfl (Nat.le_of_ble_eq_true rfl) ?_
    show WR (CalR (d + 1)) t_X9_aFits 9 (some .boolean) _ 0 [(0, .int (nI 12)), (1, .int x)] [] _
    refine R_iload_n rfl rfl ?_
    refine R_table (pc' := 206) rfl (by decide) ?_
    refine R_iload_n rfl rfl ?_
    refine R_ifF rfl (fun q => q h) ?_
    refine R_iconst (y := nI 1) rfl (by decide) ?_
    refine R_goto (pc' := 215) rfl rfl ?_
    exact R_iret rfl rfl (by first | trivial | exact Or.inl rfl | exact Or.inr rfl | assumption | exact b01) ⟨rfl, rfl⟩
  · rw [if_neg (fun q => h (le0_iff.mp q))]
    refine CalR_of (md := md_X9_aFits) (d := d + 1) rfl (Nat.le_of_ble_eq_true rfl) ?_
    show WR (CalR (d + 1)) t_X9_aFits 9 (some .boolean) _ 0 [(0, .int (nI 12)), (1, .int x)] [] _
    refine R_iload_n rfl rfl ?_
    refine R_table (pc' := 206) rfl (by decide) ?_
    refine R_iload_n rfl rfl ?_
    refine R_ifT (pc' := 214) rfl rfl (h) ?_
    refine R_iconst (y := nI 0) rfl (by decide) ?_
    exact R_iret rfl rfl (by first | trivial | exact Or.inl rfl | exact Or.inr rfl | assumption | exact b01) ⟨rfl, rfl⟩
theorem r_aF13 {d : Nat} {M : Mem} {x : Int32} : CalR (d + 2) j_X9_aFits [.int (nI 13), .int x] M (some (.int (b2i (fA 13 x)))) M := by
  have e : fA 13 x = decide (nI 0 ≤ x ∧ x ≤ nI 199) := rfl
  rw [e, ← b2i_dec]
  refine CalR_of (md := md_X9_aFits) (d := d + 1) rfl (Nat.le_of_ble_eq_true rfl) ?_
  show WR (CalR (d + 1)) t_X9_aFits 9 (some .boolean) _ 0 [(0, .int (nI 13)), (1, .int x)] [] _
  refine R_iload_n rfl rfl ?_
  refine R_table (pc' := 161) rfl (by decide) ?_
  refine R_iload_n rfl rfl ?_
  refine R_iconst (y := nI 0) rfl (by decide) ?_
  refine R_sipush (y := nI 199) rfl (by decide) ?_
  refine R_stat rfl rfl rfl (Nat.le_of_ble_eq_true rfl) rfl rfl (Nat.le_of_ble_eq_true rfl) (fun _ q => by cases q) (r_isIn) ?_
  try refine R_top (y := nI _) (by assumption) ?_
  exact R_iret rfl rfl (by first | trivial | exact Or.inl rfl | exact Or.inr rfl | assumption | exact b01) ⟨rfl, rfl⟩
theorem r_aF14 {d : Nat} {M : Mem} {x : Int32} : CalR (d + 2) j_X9_aFits [.int (nI 14), .int x] M (some (.int (b2i (fA 14 x)))) M := by
  have e : fA 14 x = decide (nI 0 ≤ x ∧ x ≤ nI 199) := rfl
  rw [e, ← b2i_dec]
  refine CalR_of (md := md_X9_aFits) (d := d + 1) rfl (Nat.le_of_ble_eq_true rfl) ?_
  show WR (CalR (d + 1)) t_X9_aFits 9 (some .boolean) _ 0 [(0, .int (nI 14)), (1, .int x)] [] _
  refine R_iload_n rfl rfl ?_
  refine R_table (pc' := 161) rfl (by decide) ?_
  refine R_iload_n rfl rfl ?_
  refine R_iconst (y := nI 0) rfl (by decide) ?_
  refine R_sipush (y := nI 199) rfl (by decide) ?_
  refine R_stat rfl rfl rfl (Nat.le_of_ble_eq_true rfl) rfl rfl (Nat.le_of_ble_eq_true rfl) (fun _ q => by cases q) (r_isIn) ?_
  try refine R_top (y := nI _) (by assumption) ?_
  exact R_iret rfl rfl (by first | trivial | exact Or.inl rfl | exact Or.inr rfl | assumption | exact b01) ⟨rfl, rfl⟩
theorem r_aF15 {d : Nat} {M : Mem} {x : Int32} : CalR (d + 2) j_X9_aFits [.int (nI 15), .int x] M (some (.int (b2i (fA 15 x)))) M := by
  have e : fA 15 x = decide (nI 0 ≤ x ∧ x ≤ nI 15) := rfl
  rw [e, ← b2i_dec]
  refine CalR_of (md := md_X9_aFits) (d := d + 1) rfl (Nat.le_of_ble_eq_true rfl) ?_
  show WR (CalR (d + 1)) t_X9_aFits 9 (some .boolean) _ 0 [(0, .int (nI 15)), (1, .int x)] [] _
  refine R_iload_n rfl rfl ?_
  refine R_table (pc' := 170) rfl (by decide) ?_
  refine R_iload_n rfl rfl ?_
  refine R_iconst (y := nI 0) rfl (by decide) ?_
  refine R_bipush (y := nI 15) rfl (by decide) ?_
  refine R_stat rfl rfl rfl (Nat.le_of_ble_eq_true rfl) rfl rfl (Nat.le_of_ble_eq_true rfl) (fun _ q => by cases q) (r_isIn) ?_
  try refine R_top (y := nI _) (by assumption) ?_
  exact R_iret rfl rfl (by first | trivial | exact Or.inl rfl | exact Or.inr rfl | assumption | exact b01) ⟨rfl, rfl⟩
theorem r_aF16 {d : Nat} {M : Mem} {x : Int32} : CalR (d + 2) j_X9_aFits [.int (nI 16), .int x] M (some (.int (b2i (fA 16 x)))) M := by
  have e : fA 16 x = decide (nI 0 ≤ x ∧ x ≤ nI 15) := rfl
  rw [e, ← b2i_dec]
  refine CalR_of (md := md_X9_aFits) (d := d + 1) rfl (Nat.le_of_ble_eq_true rfl) ?_
  show WR (CalR (d + 1)) t_X9_aFits 9 (some .boolean) _ 0 [(0, .int (nI 16)), (1, .int x)] [] _
  refine R_iload_n rfl rfl ?_
  refine R_table (pc' := 170) rfl (by decide) ?_
  refine R_iload_n rfl rfl ?_
  refine R_iconst (y := nI 0) rfl (by decide) ?_
  refine R_bipush (y := nI 15) rfl (by decide) ?_
  refine R_stat rfl rfl rfl (Nat.le_of_ble_eq_true rfl) rfl rfl (Nat.le_of_ble_eq_true rfl) (fun _ q => by cases q) (r_isIn) ?_
  try refine R_top (y := nI _) (by assumption) ?_
  exact R_iret rfl rfl (by first | trivial | exact Or.inl rfl | exact Or.inr rfl | assumption | exact b01) ⟨rfl, rfl⟩
theorem r_aF17 {d : Nat} {M : Mem} {x : Int32} : CalR (d + 2) j_X9_aFits [.int (nI 17), .int x] M (some (.int (b2i (fA 17 x)))) M := by
  have e : fA 17 x = decide (nI 0 ≤ x ∧ x ≤ nI 15) := rfl
  rw [e, ← b2i_dec]
  refine CalR_of (md := md_X9_aFits) (d := d + 1) rfl (Nat.le_of_ble_eq_true rfl) ?_
  show WR (CalR (d + 1)) t_X9_aFits 9 (some .boolean) _ 0 [(0, .int (nI 17)), (1, .int x)] [] _
  refine R_iload_n rfl rfl ?_
  refine R_table (pc' := 170) rfl (by decide) ?_
  refine R_iload_n rfl rfl ?_
  refine R_iconst (y := nI 0) rfl (by decide) ?_
  refine R_bipush (y := nI 15) rfl (by decide) ?_
  refine R_stat rfl rfl rfl (Nat.le_of_ble_eq_true rfl) rfl rfl (Nat.le_of_ble_eq_true rfl) (fun _ q => by cases q) (r_isIn) ?_
  try refine R_top (y := nI _) (by assumption) ?_
  exact R_iret rfl rfl (by first | trivial | exact Or.inl rfl | exact Or.inr rfl | assumption | exact b01) ⟨rfl, rfl⟩
theorem r_aF18 {d : Nat} {M : Mem} {x : Int32} : CalR (d + 2) j_X9_aFits [.int (nI 18), .int x] M (some (.int (b2i (fA 18 x)))) M := by
  have e : fA 18 x = decide (nI 0 ≤ x ∧ x ≤ nI 15) := rfl
  rw [e, ← b2i_dec]
  refine CalR_of (md := md_X9_aFits) (d := d + 1) rfl (Nat.le_of_ble_eq_true rfl) ?_
  show WR (CalR (d + 1)) t_X9_aFits 9 (some .boolean) _ 0 [(0, .int (nI 18)), (1, .int x)] [] _
  refine R_iload_n rfl rfl ?_
  refine R_table (pc' := 170) rfl (by decide) ?_
  refine R_iload_n rfl rfl ?_
  refine R_iconst (y := nI 0) rfl (by decide) ?_
  refine R_bipush (y := nI 15) rfl (by decide) ?_
  refine R_stat rfl rfl rfl (Nat.le_of_ble_eq_true rfl) rfl rfl (Nat.le_of_ble_eq_true rfl) (fun _ q => by cases q) (r_isIn) ?_
  try refine R_top (y := nI _) (by assumption) ?_
  exact R_iret rfl rfl (by first | trivial | exact Or.inl rfl | exact Or.inr rfl | assumption | exact b01) ⟨rfl, rfl⟩
theorem r_aF19 {d : Nat} {M : Mem} {x : Int32} : CalR (d + 2) j_X9_aFits [.int (nI 19), .int x] M (some (.int (b2i (fA 19 x)))) M := by
  have e : fA 19 x = decide (nI 0 ≤ x ∧ x ≤ nI 0) := rfl
  rw [e, ← b2i_dec]
  by_cases h : x = 0
  · rw [if_pos (le0_iff.mpr h)]
    refine CalR_of (md := md_X9_aFits) (d := d + 1) rfl (Nat.le_of_ble_eq_true rfl) ?_
    show WR (CalR (d + 1)) t_X9_aFits 9 (some .boolean) _ 0 [(0, .int (nI 19)), (1, .int x)] [] _
    refine R_iload_n rfl rfl ?_
    refine R_table (pc' := 206) rfl (by decide) ?_
    refine R_iload_n rfl rfl ?_
    refine R_ifF rfl (fun q => q h) ?_
    refine R_iconst (y := nI 1) rfl (by decide) ?_
    refine R_goto (pc' := 215) rfl rfl ?_
    exact R_iret rfl rfl (by first | trivial | exact Or.inl rfl | exact Or.inr rfl | assumption | exact b01) ⟨rfl, rfl⟩
  · rw [if_neg (fun q => h (le0_iff.mp q))]
    refine CalR_of (md := md_X9_aFits) (d := d + 1) rfl (Nat.le_of_ble_eq_true rfl) ?_
    show WR (CalR (d + 1)) t_X9_aFits 9 (some .boolean) _ 0 [(0, .int (nI 19)), (1, .int x)] [] _
    refine R_iload_n rfl rfl ?_
    refine R_table (pc' := 206) rfl (by decide) ?_
    refine R_iload_n rfl rfl ?_
    refine R_ifT (pc' := 214) rfl rfl (h) ?_
    refine R_iconst (y := nI 0) rfl (by decide) ?_
    exact R_iret rfl rfl (by first | trivial | exact Or.inl rfl | exact Or.inr rfl | assumption | exact b01) ⟨rfl, rfl⟩
theorem r_aF20 {d : Nat} {M : Mem} {x : Int32} : CalR (d + 2) j_X9_aFits [.int (nI 20), .int x] M (some (.int (b2i (fA 20 x)))) M := by
  have e : fA 20 x = decide (nI 0 ≤ x ∧ x ≤ nI 0) := rfl
  rw [e, ← b2i_dec]
  by_cases h : x = 0
  · rw [if_pos (le0_iff.mpr h)]
    refine CalR_of (md := md_X9_aFits) (d := d + 1) rfl (Nat.le_of_ble_eq_true rfl) ?_
    show WR (CalR (d + 1)) t_X9_aFits 9 (some .boolean) _ 0 [(0, .int (nI 20)), (1, .int x)] [] _
    refine R_iload_n rfl rfl ?_
    refine R_table (pc' := 206) rfl (by decide) ?_
    refine R_iload_n rfl rfl ?_
    refine R_ifF rfl (fun q => q h) ?_
    refine R_iconst (y := nI 1) rfl (by decide) ?_
    refine R_goto (pc' := 215) rfl rfl ?_
    exact R_iret rfl rfl (by first | trivial | exact Or.inl rfl | exact Or.inr rfl | assumption | exact b01) ⟨rfl, rfl⟩
  · rw [if_neg (fun q => h (le0_iff.mp q))]
    refine CalR_of (md := md_X9_aFits) (d := d + 1) rfl (Nat.le_of_ble_eq_true rfl) ?_
    show WR (CalR (d + 1)) t_X9_aFits 9 (some .boolean) _ 0 [(0, .int (nI 20)), (1, .int x)] [] _
    refine R_iload_n rfl rfl ?_
    refine R_table (pc' := 206) rfl (by decide) ?_
    refine R_iload_n rfl rfl ?_
    refine R_ifT (pc' := 214) rfl rfl (h) ?_
    refine R_iconst (y := nI 0) rfl (by decide) ?_
    exact R_iret rfl rfl (by first | trivial | exact Or.inl rfl | exact Or.inr rfl | assumption | exact b01) ⟨rfl, rfl⟩
theorem r_aF21 {d : Nat} {M : Mem} {x : Int32} : CalR (d + 2) j_X9_aFits [.int (nI 21), .int x] M (some (.int (b2i (fA 21 x)))) M := by
  have e : fA 21 x = decide (nI 0 ≤ x ∧ x ≤ nI 63) := rfl
  rw [e, ← b2i_dec]
  refine CalR_of (md := md_X9_aFits) (d := d + 1) rfl (Nat.le_of_ble_eq_true rfl) ?_
  show WR (CalR (d + 1)) t_X9_aFits 9 (some .boolean) _ 0 [(0, .int (nI 21)), (1, .int x)] [] _
  refine R_iload_n rfl rfl ?_
  refine R_table (pc' := 178) rfl (by decide) ?_
  refine R_iload_n rfl rfl ?_
  refine R_iconst (y := nI 0) rfl (by decide) ?_
  refine R_bipush (y := nI 63) rfl (by decide) ?_
  refine R_stat rfl rfl rfl (Nat.le_of_ble_eq_true rfl) rfl rfl (Nat.le_of_ble_eq_true rfl) (fun _ q => by cases q) (r_isIn) ?_
  try refine R_top (y := nI _) (by assumption) ?_
  exact R_iret rfl rfl (by first | trivial | exact Or.inl rfl | exact Or.inr rfl | assumption | exact b01) ⟨rfl, rfl⟩
theorem r_aF22 {d : Nat} {M : Mem} {x : Int32} : CalR (d + 2) j_X9_aFits [.int (nI 22), .int x] M (some (.int (b2i (fA 22 x)))) M := by
  have e : fA 22 x = decide (nI 0 ≤ x ∧ x ≤ nI 63) := rfl
  rw [e, ← b2i_dec]
  refine CalR_of (md := md_X9_aFits) (d := d + 1) rfl (Nat.le_of_ble_eq_true rfl) ?_
  show WR (CalR (d + 1)) t_X9_aFits 9 (some .boolean) _ 0 [(0, .int (nI 22)), (1, .int x)] [] _
  refine R_iload_n rfl rfl ?_
  refine R_table (pc' := 178) rfl (by decide) ?_
  refine R_iload_n rfl rfl ?_
  refine R_iconst (y := nI 0) rfl (by decide) ?_
  refine R_bipush (y := nI 63) rfl (by decide) ?_
  refine R_stat rfl rfl rfl (Nat.le_of_ble_eq_true rfl) rfl rfl (Nat.le_of_ble_eq_true rfl) (fun _ q => by cases q) (r_isIn) ?_
  try refine R_top (y := nI _) (by assumption) ?_
  exact R_iret rfl rfl (by first | trivial | exact Or.inl rfl | exact Or.inr rfl | assumption | exact b01) ⟨rfl, rfl⟩
theorem r_aF23 {d : Nat} {M : Mem} {x : Int32} : CalR (d + 2) j_X9_aFits [.int (nI 23), .int x] M (some (.int (b2i (fA 23 x)))) M := by
  have e : fA 23 x = decide (nI 0 ≤ x ∧ x ≤ nI 63) := rfl
  rw [e, ← b2i_dec]
  refine CalR_of (md := md_X9_aFits) (d := d + 1) rfl (Nat.le_of_ble_eq_true rfl) ?_
  show WR (CalR (d + 1)) t_X9_aFits 9 (some .boolean) _ 0 [(0, .int (nI 23)), (1, .int x)] [] _
  refine R_iload_n rfl rfl ?_
  refine R_table (pc' := 178) rfl (by decide) ?_
  refine R_iload_n rfl rfl ?_
  refine R_iconst (y := nI 0) rfl (by decide) ?_
  refine R_bipush (y := nI 63) rfl (by decide) ?_
  refine R_stat rfl rfl rfl (Nat.le_of_ble_eq_true rfl) rfl rfl (Nat.le_of_ble_eq_true rfl) (fun _ q => by cases q) (r_isIn) ?_
  try refine R_top (y := nI _) (by assumption) ?_
  exact R_iret rfl rfl (by first | trivial | exact Or.inl rfl | exact Or.inr rfl | assumption | exact b01) ⟨rfl, rfl⟩
theorem r_aF24 {d : Nat} {M : Mem} {x : Int32} : CalR (d + 2) j_X9_aFits [.int (nI 24), .int x] M (some (.int (b2i (fA 24 x)))) M := by
  have e : fA 24 x = decide (nI 0 ≤ x ∧ x ≤ nI 63) := rfl
  rw [e, ← b2i_dec]
  refine CalR_of (md := md_X9_aFits) (d := d + 1) rfl (Nat.le_of_ble_eq_true rfl) ?_
  show WR (CalR (d + 1)) t_X9_aFits 9 (some .boolean) _ 0 [(0, .int (nI 24)), (1, .int x)] [] _
  refine R_iload_n rfl rfl ?_
  refine R_table (pc' := 178) rfl (by decide) ?_
  refine R_iload_n rfl rfl ?_
  refine R_iconst (y := nI 0) rfl (by decide) ?_
  refine R_bipush (y := nI 63) rfl (by decide) ?_
  refine R_stat rfl rfl rfl (Nat.le_of_ble_eq_true rfl) rfl rfl (Nat.le_of_ble_eq_true rfl) (fun _ q => by cases q) (r_isIn) ?_
  try refine R_top (y := nI _) (by assumption) ?_
  exact R_iret rfl rfl (by first | trivial | exact Or.inl rfl | exact Or.inr rfl | assumption | exact b01) ⟨rfl, rfl⟩
theorem r_aF25 {d : Nat} {M : Mem} {x : Int32} : CalR (d + 2) j_X9_aFits [.int (nI 25), .int x] M (some (.int (b2i (fA 25 x)))) M := by
  have e : fA 25 x = decide (nI 0 ≤ x ∧ x ≤ nI 0) := rfl
  rw [e, ← b2i_dec]
  by_cases h : x = 0
  · rw [if_pos (le0_iff.mpr h)]
    refine CalR_of (md := md_X9_aFits) (d := d + 1) rfl (Nat.le_of_ble_eq_true rfl) ?_
    show WR (CalR (d + 1)) t_X9_aFits 9 (some .boolean) _ 0 [(0, .int (nI 25)), (1, .int x)] [] _
    refine R_iload_n rfl rfl ?_
    refine R_table (pc' := 206) rfl (by decide) ?_
    refine R_iload_n rfl rfl ?_
    refine R_ifF rfl (fun q => q h) ?_
    refine R_iconst (y := nI 1) rfl (by decide) ?_
    refine R_goto (pc' := 215) rfl rfl ?_
    exact R_iret rfl rfl (by first | trivial | exact Or.inl rfl | exact Or.inr rfl | assumption | exact b01) ⟨rfl, rfl⟩
  · rw [if_neg (fun q => h (le0_iff.mp q))]
    refine CalR_of (md := md_X9_aFits) (d := d + 1) rfl (Nat.le_of_ble_eq_true rfl) ?_
    show WR (CalR (d + 1)) t_X9_aFits 9 (some .boolean) _ 0 [(0, .int (nI 25)), (1, .int x)] [] _
    refine R_iload_n rfl rfl ?_
    refine R_table (pc' := 206) rfl (by decide) ?_
    refine R_iload_n rfl rfl ?_
    refine R_ifT (pc' := 214) rfl rfl (h) ?_
    refine R_iconst (y := nI 0) rfl (by decide) ?_
    exact R_iret rfl rfl (by first | trivial | exact Or.inl rfl | exact Or.inr rfl | assumption | exact b01) ⟨rfl, rfl⟩
theorem r_aF26 {d : Nat} {M : Mem} {x : Int32} : CalR (d + 2) j_X9_aFits [.int (nI 26), .int x] M (some (.int (b2i (fA 26 x)))) M := by
  have e : fA 26 x = decide (nI 0 ≤ x ∧ x ≤ nI 0) := rfl
  rw [e, ← b2i_dec]
  by_cases h : x = 0
  · rw [if_pos (le0_iff.mpr h)]
    refine CalR_of (md := md_X9_aFits) (d := d + 1) rfl (Nat.le_of_ble_eq_true rfl) ?_
    show WR (CalR (d + 1)) t_X9_aFits 9 (some .boolean) _ 0 [(0, .int (nI 26)), (1, .int x)] [] _
    refine R_iload_n rfl rfl ?_
    refine R_table (pc' := 206) rfl (by decide) ?_
    refine R_iload_n rfl rfl ?_
    refine R_ifF rfl (fun q => q h) ?_
    refine R_iconst (y := nI 1) rfl (by decide) ?_
    refine R_goto (pc' := 215) rfl rfl ?_
    exact R_iret rfl rfl (by first | trivial | exact Or.inl rfl | exact Or.inr rfl | assumption | exact b01) ⟨rfl, rfl⟩
  · rw [if_neg (fun q => h (le0_iff.mp q))]
    refine CalR_of (md := md_X9_aFits) (d := d + 1) rfl (Nat.le_of_ble_eq_true rfl) ?_
    show WR (CalR (d + 1)) t_X9_aFits 9 (some .boolean) _ 0 [(0, .int (nI 26)), (1, .int x)] [] _
    refine R_iload_n rfl rfl ?_
    refine R_table (pc' := 206) rfl (by decide) ?_
    refine R_iload_n rfl rfl ?_
    refine R_ifT (pc' := 214) rfl rfl (h) ?_
    refine R_iconst (y := nI 0) rfl (by decide) ?_
    exact R_iret rfl rfl (by first | trivial | exact Or.inl rfl | exact Or.inr rfl | assumption | exact b01) ⟨rfl, rfl⟩
theorem r_aF27 {d : Nat} {M : Mem} {x : Int32} : CalR (d + 2) j_X9_aFits [.int (nI 27), .int x] M (some (.int (b2i (fA 27 x)))) M := by
  have e : fA 27 x = decide (x = 0 ∨ x = 1 ∨ x = 3) := rfl
  rw [e, ← b2i_dec]
  by_cases h0 : x = 0
  · rw [if_pos (Or.inl h0)]
    refine CalR_of (md := md_X9_aFits) (d := d + 1) rfl (Nat.le_of_ble_eq_true rfl) ?_
    show WR (CalR (d + 1)) t_X9_aFits 9 (some .boolean) _ 0 [(0, .int (nI 27)), (1, .int x)] [] _
    refine R_iload_n rfl rfl ?_
    refine R_table (pc' := 186) rfl (by decide) ?_
    refine R_iload_n rfl rfl ?_
    refine R_ifT (pc' := 200) rfl rfl (h0) ?_
    refine R_iconst (y := nI 1) rfl (by decide) ?_
    refine R_goto (pc' := 205) rfl rfl ?_
    exact R_iret rfl rfl (by first | trivial | exact Or.inl rfl | exact Or.inr rfl | assumption | exact b01) ⟨rfl, rfl⟩
  · by_cases h1 : x = 1
    · rw [if_pos (Or.inr (Or.inl h1))]
      refine CalR_of (md := md_X9_aFits) (d := d + 1) rfl (Nat.le_of_ble_eq_true rfl) ?_
      show WR (CalR (d + 1)) t_X9_aFits 9 (some .boolean) _ 0 [(0, .int (nI 27)), (1, .int x)] [] _
      refine R_iload_n rfl rfl ?_
      refine R_table (pc' := 186) rfl (by decide) ?_
      refine R_iload_n rfl rfl ?_
      refine R_ifF rfl (h0) ?_
      refine R_iload_n rfl rfl ?_
      refine R_iconst (y := nI 1) rfl (by decide) ?_
      refine R_icT (pc' := 200) rfl rfl (h1) ?_
      refine R_iconst (y := nI 1) rfl (by decide) ?_
      refine R_goto (pc' := 205) rfl rfl ?_
      exact R_iret rfl rfl (by first | trivial | exact Or.inl rfl | exact Or.inr rfl | assumption | exact b01) ⟨rfl, rfl⟩
    · by_cases h3 : x = 3
      · rw [if_pos (Or.inr (Or.inr h3))]
        refine CalR_of (md := md_X9_aFits) (d := d + 1) rfl (Nat.le_of_ble_eq_true rfl) ?_
        show WR (CalR (d + 1)) t_X9_aFits 9 (some .boolean) _ 0 [(0, .int (nI 27)), (1, .int x)] [] _
        refine R_iload_n rfl rfl ?_
        refine R_table (pc' := 186) rfl (by decide) ?_
        refine R_iload_n rfl rfl ?_
        refine R_ifF rfl (h0) ?_
        refine R_iload_n rfl rfl ?_
        refine R_iconst (y := nI 1) rfl (by decide) ?_
        refine R_icF rfl (h1) ?_
        refine R_iload_n rfl rfl ?_
        refine R_iconst (y := nI 3) rfl (by decide) ?_
        refine R_icF rfl (fun q => q h3) ?_
        refine R_iconst (y := nI 1) rfl (by decide) ?_
        refine R_goto (pc' := 205) rfl rfl ?_
        exact R_iret rfl rfl (by first | trivial | exact Or.inl rfl | exact Or.inr rfl | assumption | exact b01) ⟨rfl, rfl⟩
      · rw [if_neg (fun q => q.elim h0 (fun q => q.elim h1 h3))]
        refine CalR_of (md := md_X9_aFits) (d := d + 1) rfl (Nat.le_of_ble_eq_true rfl) ?_
        show WR (CalR (d + 1)) t_X9_aFits 9 (some .boolean) _ 0 [(0, .int (nI 27)), (1, .int x)] [] _
        refine R_iload_n rfl rfl ?_
        refine R_table (pc' := 186) rfl (by decide) ?_
        refine R_iload_n rfl rfl ?_
        refine R_ifF rfl (h0) ?_
        refine R_iload_n rfl rfl ?_
        refine R_iconst (y := nI 1) rfl (by decide) ?_
        refine R_icF rfl (h1) ?_
        refine R_iload_n rfl rfl ?_
        refine R_iconst (y := nI 3) rfl (by decide) ?_
        refine R_icT (pc' := 204) rfl rfl (h3) ?_
        refine R_iconst (y := nI 0) rfl (by decide) ?_
        exact R_iret rfl rfl (by first | trivial | exact Or.inl rfl | exact Or.inr rfl | assumption | exact b01) ⟨rfl, rfl⟩
theorem r_aF28 {d : Nat} {M : Mem} {x : Int32} : CalR (d + 2) j_X9_aFits [.int (nI 28), .int x] M (some (.int (b2i (fA 28 x)))) M := by
  have e : fA 28 x = decide (nI 0 ≤ x ∧ x ≤ nI 199) := rfl
  rw [e, ← b2i_dec]
  refine CalR_of (md := md_X9_aFits) (d := d + 1) rfl (Nat.le_of_ble_eq_true rfl) ?_
  show WR (CalR (d + 1)) t_X9_aFits 9 (some .boolean) _ 0 [(0, .int (nI 28)), (1, .int x)] [] _
  refine R_iload_n rfl rfl ?_
  refine R_table (pc' := 161) rfl (by decide) ?_
  refine R_iload_n rfl rfl ?_
  refine R_iconst (y := nI 0) rfl (by decide) ?_
  refine R_sipush (y := nI 199) rfl (by decide) ?_
  refine R_stat rfl rfl rfl (Nat.le_of_ble_eq_true rfl) rfl rfl (Nat.le_of_ble_eq_true rfl) (fun _ q => by cases q) (r_isIn) ?_
  try refine R_top (y := nI _) (by assumption) ?_
  exact R_iret rfl rfl (by first | trivial | exact Or.inl rfl | exact Or.inr rfl | assumption | exact b01) ⟨rfl, rfl⟩
theorem r_aF29 {d : Nat} {M : Mem} {x : Int32} : CalR (d + 2) j_X9_aFits [.int (nI 29), .int x] M (some (.int (b2i (fA 29 x)))) M := by
  have e : fA 29 x = decide (nI 0 ≤ x ∧ x ≤ nI 63) := rfl
  rw [e, ← b2i_dec]
  refine CalR_of (md := md_X9_aFits) (d := d + 1) rfl (Nat.le_of_ble_eq_true rfl) ?_
  show WR (CalR (d + 1)) t_X9_aFits 9 (some .boolean) _ 0 [(0, .int (nI 29)), (1, .int x)] [] _
  refine R_iload_n rfl rfl ?_
  refine R_table (pc' := 178) rfl (by decide) ?_
  refine R_iload_n rfl rfl ?_
  refine R_iconst (y := nI 0) rfl (by decide) ?_
  refine R_bipush (y := nI 63) rfl (by decide) ?_
  refine R_stat rfl rfl rfl (Nat.le_of_ble_eq_true rfl) rfl rfl (Nat.le_of_ble_eq_true rfl) (fun _ q => by cases q) (r_isIn) ?_
  try refine R_top (y := nI _) (by assumption) ?_
  exact R_iret rfl rfl (by first | trivial | exact Or.inl rfl | exact Or.inr rfl | assumption | exact b01) ⟨rfl, rfl⟩
theorem r_aF30 {d : Nat} {M : Mem} {x : Int32} : CalR (d + 2) j_X9_aFits [.int (nI 30), .int x] M (some (.int (b2i (fA 30 x)))) M := by
  have e : fA 30 x = decide (nI 0 ≤ x ∧ x ≤ nI 0) := rfl
  rw [e, ← b2i_dec]
  by_cases h : x = 0
  · rw [if_pos (le0_iff.mpr h)]
    refine CalR_of (md := md_X9_aFits) (d := d + 1) rfl (Nat.le_of_ble_eq_true rfl) ?_
    show WR (CalR (d + 1)) t_X9_aFits 9 (some .boolean) _ 0 [(0, .int (nI 30)), (1, .int x)] [] _
    refine R_iload_n rfl rfl ?_
    refine R_table (pc' := 206) rfl (by decide) ?_
    refine R_iload_n rfl rfl ?_
    refine R_ifF rfl (fun q => q h) ?_
    refine R_iconst (y := nI 1) rfl (by decide) ?_
    refine R_goto (pc' := 215) rfl rfl ?_
    exact R_iret rfl rfl (by first | trivial | exact Or.inl rfl | exact Or.inr rfl | assumption | exact b01) ⟨rfl, rfl⟩
  · rw [if_neg (fun q => h (le0_iff.mp q))]
    refine CalR_of (md := md_X9_aFits) (d := d + 1) rfl (Nat.le_of_ble_eq_true rfl) ?_
    show WR (CalR (d + 1)) t_X9_aFits 9 (some .boolean) _ 0 [(0, .int (nI 30)), (1, .int x)] [] _
    refine R_iload_n rfl rfl ?_
    refine R_table (pc' := 206) rfl (by decide) ?_
    refine R_iload_n rfl rfl ?_
    refine R_ifT (pc' := 214) rfl rfl (h) ?_
    refine R_iconst (y := nI 0) rfl (by decide) ?_
    exact R_iret rfl rfl (by first | trivial | exact Or.inl rfl | exact Or.inr rfl | assumption | exact b01) ⟨rfl, rfl⟩
theorem r_aF31 {d : Nat} {M : Mem} {x : Int32} : CalR (d + 2) j_X9_aFits [.int (nI 31), .int x] M (some (.int (b2i (fA 31 x)))) M := by
  have e : fA 31 x = decide (nI 0 ≤ x ∧ x ≤ nI 0) := rfl
  rw [e, ← b2i_dec]
  by_cases h : x = 0
  · rw [if_pos (le0_iff.mpr h)]
    refine CalR_of (md := md_X9_aFits) (d := d + 1) rfl (Nat.le_of_ble_eq_true rfl) ?_
    show WR (CalR (d + 1)) t_X9_aFits 9 (some .boolean) _ 0 [(0, .int (nI 31)), (1, .int x)] [] _
    refine R_iload_n rfl rfl ?_
    refine R_table (pc' := 206) rfl (by decide) ?_
    refine R_iload_n rfl rfl ?_
    refine R_ifF rfl (fun q => q h) ?_
    refine R_iconst (y := nI 1) rfl (by decide) ?_
    refine R_goto (pc' := 215) rfl rfl ?_
    exact R_iret rfl rfl (by first | trivial | exact Or.inl rfl | exact Or.inr rfl | assumption | exact b01) ⟨rfl, rfl⟩
  · rw [if_neg (fun q => h (le0_iff.mp q))]
    refine CalR_of (md := md_X9_aFits) (d := d + 1) rfl (Nat.le_of_ble_eq_true rfl) ?_
    show WR (CalR (d + 1)) t_X9_aFits 9 (some .boolean) _ 0 [(0, .int (nI 31)), (1, .int x)] [] _
    refine R_iload_n rfl rfl ?_
    refine R_table (pc' := 206) rfl (by decide) ?_
    refine R_iload_n rfl rfl ?_
    refine R_ifT (pc' := 214) rfl rfl (h) ?_
    refine R_iconst (y := nI 0) rfl (by decide) ?_
    exact R_iret rfl rfl (by first | trivial | exact Or.inl rfl | exact Or.inr rfl | assumption | exact b01) ⟨rfl, rfl⟩
theorem r_aF32 {d : Nat} {M : Mem} {x : Int32} : CalR (d + 2) j_X9_aFits [.int (nI 32), .int x] M (some (.int (b2i (fA 32 x)))) M := by
  have e : fA 32 x = decide (nI 0 ≤ x ∧ x ≤ nI 0) := rfl
  rw [e, ← b2i_dec]
  by_cases h : x = 0
  · rw [if_pos (le0_iff.mpr h)]
    refine CalR_of (md := md_X9_aFits) (d := d + 1) rfl (Nat.le_of_ble_eq_true rfl) ?_
    show WR (CalR (d + 1)) t_X9_aFits 9 (some .boolean) _ 0 [(0, .int (nI 32)), (1, .int x)] [] _
    refine R_iload_n rfl rfl ?_
    refine R_table (pc' := 206) rfl (by decide) ?_
    refine R_iload_n rfl rfl ?_
    refine R_ifF rfl (fun q => q h) ?_
    refine R_iconst (y := nI 1) rfl (by decide) ?_
    refine R_goto (pc' := 215) rfl rfl ?_
    exact R_iret rfl rfl (by first | trivial | exact Or.inl rfl | exact Or.inr rfl | assumption | exact b01) ⟨rfl, rfl⟩
  · rw [if_neg (fun q => h (le0_iff.mp q))]
    refine CalR_of (md := md_X9_aFits) (d := d + 1) rfl (Nat.le_of_ble_eq_true rfl) ?_
    show WR (CalR (d + 1)) t_X9_aFits 9 (some .boolean) _ 0 [(0, .int (nI 32)), (1, .int x)] [] _
    refine R_iload_n rfl rfl ?_
    refine R_table (pc' := 206) rfl (by decide) ?_
    refine R_iload_n rfl rfl ?_
    refine R_ifT (pc' := 214) rfl rfl (h) ?_
    refine R_iconst (y := nI 0) rfl (by decide) ?_
    exact R_iret rfl rfl (by first | trivial | exact Or.inl rfl | exact Or.inr rfl | assumption | exact b01) ⟨rfl, rfl⟩
theorem r_aF33 {d : Nat} {M : Mem} {x : Int32} : CalR (d + 2) j_X9_aFits [.int (nI 33), .int x] M (some (.int (b2i (fA 33 x)))) M := by
  have e : fA 33 x = decide (nI 0 ≤ x ∧ x ≤ nI 199) := rfl
  rw [e, ← b2i_dec]
  refine CalR_of (md := md_X9_aFits) (d := d + 1) rfl (Nat.le_of_ble_eq_true rfl) ?_
  show WR (CalR (d + 1)) t_X9_aFits 9 (some .boolean) _ 0 [(0, .int (nI 33)), (1, .int x)] [] _
  refine R_iload_n rfl rfl ?_
  refine R_table (pc' := 161) rfl (by decide) ?_
  refine R_iload_n rfl rfl ?_
  refine R_iconst (y := nI 0) rfl (by decide) ?_
  refine R_sipush (y := nI 199) rfl (by decide) ?_
  refine R_stat rfl rfl rfl (Nat.le_of_ble_eq_true rfl) rfl rfl (Nat.le_of_ble_eq_true rfl) (fun _ q => by cases q) (r_isIn) ?_
  try refine R_top (y := nI _) (by assumption) ?_
  exact R_iret rfl rfl (by first | trivial | exact Or.inl rfl | exact Or.inr rfl | assumption | exact b01) ⟨rfl, rfl⟩
theorem r_aF34 {d : Nat} {M : Mem} {x : Int32} : CalR (d + 2) j_X9_aFits [.int (nI 34), .int x] M (some (.int (b2i (fA 34 x)))) M := by
  have e : fA 34 x = decide (nI 0 ≤ x ∧ x ≤ nI 15) := rfl
  rw [e, ← b2i_dec]
  refine CalR_of (md := md_X9_aFits) (d := d + 1) rfl (Nat.le_of_ble_eq_true rfl) ?_
  show WR (CalR (d + 1)) t_X9_aFits 9 (some .boolean) _ 0 [(0, .int (nI 34)), (1, .int x)] [] _
  refine R_iload_n rfl rfl ?_
  refine R_table (pc' := 170) rfl (by decide) ?_
  refine R_iload_n rfl rfl ?_
  refine R_iconst (y := nI 0) rfl (by decide) ?_
  refine R_bipush (y := nI 15) rfl (by decide) ?_
  refine R_stat rfl rfl rfl (Nat.le_of_ble_eq_true rfl) rfl rfl (Nat.le_of_ble_eq_true rfl) (fun _ q => by cases q) (r_isIn) ?_
  try refine R_top (y := nI _) (by assumption) ?_
  exact R_iret rfl rfl (by first | trivial | exact Or.inl rfl | exact Or.inr rfl | assumption | exact b01) ⟨rfl, rfl⟩
theorem r_aFits {d k : Nat} {M : Mem} {x : Int32} (hk : k < 35) : CalR (d + 2) j_X9_aFits [.int (nI k), .int x] M (some (.int (b2i (fA k x)))) M := by
  have : k = 0 ∨ k = 1 ∨ k = 2 ∨ k = 3 ∨ k = 4 ∨ k = 5 ∨ k = 6 ∨ k = 7 ∨ k = 8 ∨ k = 9 ∨ k = 10 ∨ k = 11 ∨ k = 12 ∨ k = 13 ∨ k = 14 ∨ k = 15 ∨ k = 16 ∨ k = 17 ∨ k = 18 ∨ k = 19 ∨ k = 20 ∨ k = 21 ∨ k = 22 ∨ k = 23 ∨ k = 24 ∨ k = 25 ∨ k = 26 ∨ k = 27 ∨ k = 28 ∨ k = 29 ∨ k = 30 ∨ k = 31 ∨ k = 32 ∨ k = 33 ∨ k = 34 := by omega
  rcases this with rfl | rfl | rfl | rfl | rfl | rfl | rfl | rfl | rfl | rfl | rfl | rfl | rfl | rfl | rfl | rfl | rfl | rfl | rfl | rfl | rfl | rfl | rfl | rfl | rfl | rfl | rfl | rfl | rfl | rfl | rfl | rfl | rfl | rfl | rfl
  · exact r_aF0
  · exact r_aF1
  · exact r_aF2
  · exact r_aF3
  · exact r_aF4
  · exact r_aF5
  · exact r_aF6
  · exact r_aF7
  · exact r_aF8
  · exact r_aF9
  · exact r_aF10
  · exact r_aF11
  · exact r_aF12
  · exact r_aF13
  · exact r_aF14
  · exact r_aF15
  · exact r_aF16
  · exact r_aF17
  · exact r_aF18
  · exact r_aF19
  · exact r_aF20
  · exact r_aF21
  · exact r_aF22
  · exact r_aF23
  · exact r_aF24
  · exact r_aF25
  · exact r_aF26
  · exact r_aF27
  · exact r_aF28
  · exact r_aF29
  · exact r_aF30
  · exact r_aF31
  · exact r_aF32
  · exact r_aF33
  · exact r_aF34
theorem r_bFits {d k : Nat} {M : Mem} {x y : Int32} (hk : k < 35) : CalR (d + 2) j_X9_bFits [.int (nI k), .int x, .int y] M (some (.int (b2i (fB k x y)))) M := by
  by_cases h29 : k = 29
  · subst h29
    have e : fB 29 x y = decide (nI 0 ≤ y ∧ y ≤ nI 8) := rfl
    rw [e, ← b2i_dec]
    refine CalR_of (md := md_X9_bFits) (d := d + 1) rfl (Nat.le_of_ble_eq_true rfl) ?_
    show WR (CalR (d + 1)) t_X9_bFits 9 (some .boolean) _ 0 [(0, .int (nI 29)), (1, .int x), (2, .int y)] [] _
    refine R_iload_n rfl rfl ?_
    refine R_bipush (y := nI 29) rfl (by decide) ?_
    refine R_icF rfl (by first | assumption | exact icF (by decide) | exact ic_F (by omega) (by omega) (by simp only [icN, not_true_eq_false, not_false_eq_true] <;> omega) | exact ic_F0 (by omega) (by simp only [icN, not_true_eq_false, not_false_eq_true] <;> omega)) ?_
    refine R_iload_n rfl rfl ?_
    refine R_iconst (y := nI 0) rfl (by decide) ?_
    refine R_bipush (y := nI 8) rfl (by decide) ?_
    refine R_stat rfl rfl rfl (Nat.le_of_ble_eq_true rfl) rfl rfl (Nat.le_of_ble_eq_true rfl) (fun _ q => by cases q) (r_isIn) ?_
    try refine R_top (y := nI _) (by assumption) ?_
    exact R_iret rfl rfl (by first | trivial | exact Or.inl rfl | exact Or.inr rfl | assumption | exact b01) ⟨rfl, rfl⟩
  · by_cases h34 : k = 34
    · subst h34
      have e : fB 34 x y = decide ((nI 0 ≤ y ∧ y ≤ nI 15) ∧ x + y ≤ nI 15) := rfl
      rw [e, ← b2i_dec]
      by_cases h1 : nI 0 ≤ y ∧ y ≤ nI 15
      · have hin : CalR (d + 1) j_X9_isIn [.int y, .int (nI 0), .int (nI 15)] M (some (.int 1)) M := by
          have := r_isIn (d := d) (M := M) (v := y) (lo := nI 0) (hi := nI 15)
          rw [if_pos h1] at this
          exact this
        by_cases h2 : x + y ≤ nI 15
        · rw [if_pos ⟨h1, h2⟩]
          have h2' : ¬ nI 15 < x + y := Int32.not_lt.mpr h2
          refine CalR_of (md := md_X9_bFits) (d := d + 1) rfl (Nat.le_of_ble_eq_true rfl) ?_
          show WR (CalR (d + 1)) t_X9_bFits 9 (some .boolean) _ 0 [(0, .int (nI 34)), (1, .int x), (2, .int y)] [] _
          refine R_iload_n rfl rfl ?_
          refine R_bipush (y := nI 29) rfl (by decide) ?_
          refine R_icT (pc' := 14) rfl rfl (by first | assumption | exact icT (by decide) | exact ic_T (by omega) (by omega) (by simp only [icN, not_true_eq_false, not_false_eq_true] <;> omega) | exact ic_T0 (by omega) (by simp only [icN, not_true_eq_false, not_false_eq_true] <;> omega)) ?_
          refine R_iload_n rfl rfl ?_
          refine R_bipush (y := nI 34) rfl (by decide) ?_
          refine R_icF rfl (by first | assumption | exact icF (by decide) | exact ic_F (by omega) (by omega) (by simp only [icN, not_true_eq_false, not_false_eq_true] <;> omega) | exact ic_F0 (by omega) (by simp only [icN, not_true_eq_false, not_false_eq_true] <;> omega)) ?_
          refine R_iload_n rfl rfl ?_
          refine R_iconst (y := nI 0) rfl (by decide) ?_
          refine R_bipush (y := nI 15) rfl (by decide) ?_
          refine R_stat rfl rfl rfl (Nat.le_of_ble_eq_true rfl) rfl rfl (Nat.le_of_ble_eq_true rfl) (fun _ q => by cases q) (hin) ?_
          try refine R_top (y := nI _) (by assumption) ?_
          refine R_ifF rfl (by first | assumption | exact icF (by decide) | exact ic_F (by omega) (by omega) (by simp only [icN, not_true_eq_false, not_false_eq_true] <;> omega) | exact ic_F0 (by omega) (by simp only [icN, not_true_eq_false, not_false_eq_true] <;> omega)) ?_
          refine R_iload_n rfl rfl ?_
          refine R_iload_n rfl rfl ?_
          first | refine R_iaddN rfl ?_ | refine R_iadd rfl ?_
          refine R_bipush (y := nI 15) rfl (by decide) ?_
          refine R_icF rfl (h2') ?_
          refine R_iconst (y := nI 1) rfl (by decide) ?_
          refine R_goto (pc' := 55) rfl rfl ?_
          exact R_iret rfl rfl (by first | trivial | exact Or.inl rfl | exact Or.inr rfl | assumption | exact b01) ⟨rfl, rfl⟩
        · rw [if_neg (fun q => h2 q.2)]
          have h2' : nI 15 < x + y := Int32.not_le.mp h2
          refine CalR_of (md := md_X9_bFits) (d := d + 1) rfl (Nat.le_of_ble_eq_true rfl) ?_
          show WR (CalR (d + 1)) t_X9_bFits 9 (some .boolean) _ 0 [(0, .int (nI 34)), (1, .int x), (2, .int y)] [] _
          refine R_iload_n rfl rfl ?_
          refine R_bipush (y := nI 29) rfl (by decide) ?_
          refine R_icT (pc' := 14) rfl rfl (by first | assumption | exact icT (by decide) | exact ic_T (by omega) (by omega) (by simp only [icN, not_true_eq_false, not_false_eq_true] <;> omega) | exact ic_T0 (by omega) (by simp only [icN, not_true_eq_false, not_false_eq_true] <;> omega)) ?_
          refine R_iload_n rfl rfl ?_
          refine R_bipush (y := nI 34) rfl (by decide) ?_
          refine R_icF rfl (by first | assumption | exact icF (by decide) | exact ic_F (by omega) (by omega) (by simp only [icN, not_true_eq_false, not_false_eq_true] <;> omega) | exact ic_F0 (by omega) (by simp only [icN, not_true_eq_false, not_false_eq_true] <;> omega)) ?_
          refine R_iload_n rfl rfl ?_
          refine R_iconst (y := nI 0) rfl (by decide) ?_
          refine R_bipush (y := nI 15) rfl (by decide) ?_
          refine R_stat rfl rfl rfl (Nat.le_of_ble_eq_true rfl) rfl rfl (Nat.le_of_ble_eq_true rfl) (fun _ q => by cases q) (hin) ?_
          try refine R_top (y := nI _) (by assumption) ?_
          refine R_ifF rfl (by first | assumption | exact icF (by decide) | exact ic_F (by omega) (by omega) (by simp only [icN, not_true_eq_false, not_false_eq_true] <;> omega) | exact ic_F0 (by omega) (by simp only [icN, not_true_eq_false, not_false_eq_true] <;> omega)) ?_
          refine R_iload_n rfl rfl ?_
          refine R_iload_n rfl rfl ?_
          first | refine R_iaddN rfl ?_ | refine R_iadd rfl ?_
          refine R_bipush (y := nI 15) rfl (by decide) ?_
          refine R_icT (pc' := 42) rfl rfl (h2') ?_
          refine R_iconst (y := nI 0) rfl (by decide) ?_
          refine R_goto (pc' := 55) rfl rfl ?_
          exact R_iret rfl rfl (by first | trivial | exact Or.inl rfl | exact Or.inr rfl | assumption | exact b01) ⟨rfl, rfl⟩
      · have hin : CalR (d + 1) j_X9_isIn [.int y, .int (nI 0), .int (nI 15)] M (some (.int 0)) M := by
          have := r_isIn (d := d) (M := M) (v := y) (lo := nI 0) (hi := nI 15)
          rw [if_neg h1] at this
          exact this
        rw [if_neg (fun q => h1 q.1)]
        refine CalR_of (md := md_X9_bFits) (d := d + 1) rfl (Nat.le_of_ble_eq_true rfl) ?_
        show WR (CalR (d + 1)) t_X9_bFits 9 (some .boolean) _ 0 [(0, .int (nI 34)), (1, .int x), (2, .int y)] [] _
        refine R_iload_n rfl rfl ?_
        refine R_bipush (y := nI 29) rfl (by decide) ?_
        refine R_icT (pc' := 14) rfl rfl (by first | assumption | exact icT (by decide) | exact ic_T (by omega) (by omega) (by simp only [icN, not_true_eq_false, not_false_eq_true] <;> omega) | exact ic_T0 (by omega) (by simp only [icN, not_true_eq_false, not_false_eq_true] <;> omega)) ?_
        refine R_iload_n rfl rfl ?_
        refine R_bipush (y := nI 34) rfl (by decide) ?_
        refine R_icF rfl (by first | assumption | exact icF (by decide) | exact ic_F (by omega) (by omega) (by simp only [icN, not_true_eq_false, not_false_eq_true] <;> omega) | exact ic_F0 (by omega) (by simp only [icN, not_true_eq_false, not_false_eq_true] <;> omega)) ?_
        refine R_iload_n rfl rfl ?_
        refine R_iconst (y := nI 0) rfl (by decide) ?_
        refine R_bipush (y := nI 15) rfl (by decide) ?_
        refine R_stat rfl rfl rfl (Nat.le_of_ble_eq_true rfl) rfl rfl (Nat.le_of_ble_eq_true rfl) (fun _ q => by cases q) (hin) ?_
        try refine R_top (y := nI _) (by assumption) ?_
        refine R_ifT (pc' := 42) rfl rfl (by first | assumption | exact icT (by decide) | exact ic_T (by omega) (by omega) (by simp only [icN, not_true_eq_false, not_false_eq_true] <;> omega) | exact ic_T0 (by omega) (by simp only [icN, not_true_eq_false, not_false_eq_true] <;> omega)) ?_
        refine R_iconst (y := nI 0) rfl (by decide) ?_
        refine R_goto (pc' := 55) rfl rfl ?_
        exact R_iret rfl rfl (by first | trivial | exact Or.inl rfl | exact Or.inr rfl | assumption | exact b01) ⟨rfl, rfl⟩
    · have e : fB k x y = decide (y = 0) := by unfold fB; rw [if_neg h29, if_neg h34]
      rw [e, ← b2i_dec]
      by_cases h : y = 0
      · rw [if_pos h]
        refine CalR_of (md := md_X9_bFits) (d := d + 1) rfl (Nat.le_of_ble_eq_true rfl) ?_
        show WR (CalR (d + 1)) t_X9_bFits 9 (some .boolean) _ 0 [(0, .int (nI k)), (1, .int x), (2, .int y)] [] _
        refine R_iload_n rfl rfl ?_
        refine R_bipush (y := nI 29) rfl (by decide) ?_
        refine R_icT (pc' := 14) rfl rfl (by first | assumption | exact icT (by decide) | exact ic_T (by omega) (by omega) (by simp only [icN, not_true_eq_false, not_false_eq_true] <;> omega) | exact ic_T0 (by omega) (by simp only [icN, not_true_eq_false, not_false_eq_true] <;> omega)) ?_
        refine R_iload_n rfl rfl ?_
        refine R_bipush (y := nI 34) rfl (by decide) ?_
        refine R_icT (pc' := 46) rfl rfl (by first | assumption | exact icT (by decide) | exact ic_T (by omega) (by omega) (by simp only [icN, not_true_eq_false, not_false_eq_true] <;> omega) | exact ic_T0 (by omega) (by simp only [icN, not_true_eq_false, not_false_eq_true] <;> omega)) ?_
        refine R_iload_n rfl rfl ?_
        refine R_ifF rfl (fun q => q h) ?_
        refine R_iconst (y := nI 1) rfl (by decide) ?_
        refine R_goto (pc' := 55) rfl rfl ?_
        exact R_iret rfl rfl (by first | trivial | exact Or.inl rfl | exact Or.inr rfl | assumption | exact b01) ⟨rfl, rfl⟩
      · rw [if_neg h]
        refine CalR_of (md := md_X9_bFits) (d := d + 1) rfl (Nat.le_of_ble_eq_true rfl) ?_
        show WR (CalR (d + 1)) t_X9_bFits 9 (some .boolean) _ 0 [(0, .int (nI k)), (1, .int x), (2, .int y)] [] _
        refine R_iload_n rfl rfl ?_
        refine R_bipush (y := nI 29) rfl (by decide) ?_
        refine R_icT (pc' := 14) rfl rfl (by first | assumption | exact icT (by decide) | exact ic_T (by omega) (by omega) (by simp only [icN, not_true_eq_false, not_false_eq_true] <;> omega) | exact ic_T0 (by omega) (by simp only [icN, not_true_eq_false, not_false_eq_true] <;> omega)) ?_
        refine R_iload_n rfl rfl ?_
        refine R_bipush (y := nI 34) rfl (by decide) ?_
        refine R_icT (pc' := 46) rfl rfl (by first | assumption | exact icT (by decide) | exact ic_T (by omega) (by omega) (by simp only [icN, not_true_eq_false, not_false_eq_true] <;> omega) | exact ic_T0 (by omega) (by simp only [icN, not_true_eq_false, not_false_eq_true] <;> omega)) ?_
        refine R_iload_n rfl rfl ?_
        refine R_ifT (pc' := 54) rfl rfl (h) ?_
        refine R_iconst (y := nI 0) rfl (by decide) ?_
        exact R_iret rfl rfl (by first | trivial | exact Or.inl rfl | exact Or.inr rfl | assumption | exact b01) ⟨rfl, rfl⟩
def nmL (k : Nat) : Bool := decide (k = 13 ∨ k = 14 ∨ k = 28)
theorem r_namesL {d k : Nat} {M : Mem} (hk : k < 35) : CalR (d + 1) j_X9_namesLabel [.int (nI k)] M (some (.int (b2i (nmL k)))) M := by
  have e : nmL k = decide (k = 13 ∨ k = 14 ∨ k = 28) := rfl
  rw [e, ← b2i_dec]
  by_cases h1 : k = 13
  · rw [if_pos (Or.inl h1)]
    refine CalR_of (md := md_X9_namesLabel) rfl (Nat.le_of_ble_eq_true rfl) ?_
    show WR (CalR d) t_X9_namesLabel 9 (some .boolean) _ 0 [(0, .int (nI k))] [] _
    refine R_iload_n rfl rfl ?_
    refine R_bipush (y := nI 13) rfl (by decide) ?_
    refine R_icT (pc' := 18) rfl rfl (by first | assumption | exact icT (by decide) | exact ic_T (by omega) (by omega) (by simp only [icN, not_true_eq_false, not_false_eq_true] <;> omega) | exact ic_T0 (by omega) (by simp only [icN, not_true_eq_false, not_false_eq_true] <;> omega)) ?_
    refine R_iconst (y := nI 1) rfl (by decide) ?_
    refine R_goto (pc' := 23) rfl rfl ?_
    exact R_iret rfl rfl (by first | trivial | exact Or.inl rfl | exact Or.inr rfl | assumption | exact b01) ⟨rfl, rfl⟩
  · by_cases h2 : k = 14
    · rw [if_pos (Or.inr (Or.inl h2))]
      refine CalR_of (md := md_X9_namesLabel) rfl (Nat.le_of_ble_eq_true rfl) ?_
      show WR (CalR d) t_X9_namesLabel 9 (some .boolean) _ 0 [(0, .int (nI k))] [] _
      refine R_iload_n rfl rfl ?_
      refine R_bipush (y := nI 13) rfl (by decide) ?_
      refine R_icF rfl (by first | assumption | exact icF (by decide) | exact ic_F (by omega) (by omega) (by simp only [icN, not_true_eq_false, not_false_eq_true] <;> omega) | exact ic_F0 (by omega) (by simp only [icN, not_true_eq_false, not_false_eq_true] <;> omega)) ?_
      refine R_iload_n rfl rfl ?_
      refine R_bipush (y := nI 14) rfl (by decide) ?_
      refine R_icT (pc' := 18) rfl rfl (by first | assumption | exact icT (by decide) | exact ic_T (by omega) (by omega) (by simp only [icN, not_true_eq_false, not_false_eq_true] <;> omega) | exact ic_T0 (by omega) (by simp only [icN, not_true_eq_false, not_false_eq_true] <;> omega)) ?_
      refine R_iconst (y := nI 1) rfl (by decide) ?_
      refine R_goto (pc' := 23) rfl rfl ?_
      exact R_iret rfl rfl (by first | trivial | exact Or.inl rfl | exact Or.inr rfl | assumption | exact b01) ⟨rfl, rfl⟩
    · by_cases h3 : k = 28
      · rw [if_pos (Or.inr (Or.inr h3))]
        refine CalR_of (md := md_X9_namesLabel) rfl (Nat.le_of_ble_eq_true rfl) ?_
        show WR (CalR d) t_X9_namesLabel 9 (some .boolean) _ 0 [(0, .int (nI k))] [] _
        refine R_iload_n rfl rfl ?_
        refine R_bipush (y := nI 13) rfl (by decide) ?_
        refine R_icF rfl (by first | assumption | exact icF (by decide) | exact ic_F (by omega) (by omega) (by simp only [icN, not_true_eq_false, not_false_eq_true] <;> omega) | exact ic_F0 (by omega) (by simp only [icN, not_true_eq_false, not_false_eq_true] <;> omega)) ?_
        refine R_iload_n rfl rfl ?_
        refine R_bipush (y := nI 14) rfl (by decide) ?_
        refine R_icF rfl (by first | assumption | exact icF (by decide) | exact ic_F (by omega) (by omega) (by simp only [icN, not_true_eq_false, not_false_eq_true] <;> omega) | exact ic_F0 (by omega) (by simp only [icN, not_true_eq_false, not_false_eq_true] <;> omega)) ?_
        refine R_iload_n rfl rfl ?_
        refine R_bipush (y := nI 28) rfl (by decide) ?_
        refine R_icF rfl (by first | assumption | exact icF (by decide) | exact ic_F (by omega) (by omega) (by simp only [icN, not_true_eq_false, not_false_eq_true] <;> omega) | exact ic_F0 (by omega) (by simp only [icN, not_true_eq_false, not_false_eq_true] <;> omega)) ?_
        refine R_iconst (y := nI 1) rfl (by decide) ?_
        refine R_goto (pc' := 23) rfl rfl ?_
        exact R_iret rfl rfl (by first | trivial | exact Or.inl rfl | exact Or.inr rfl | assumption | exact b01) ⟨rfl, rfl⟩
      · rw [if_neg (fun q => q.elim h1 (fun q => q.elim h2 h3))]
        refine CalR_of (md := md_X9_namesLabel) rfl (Nat.le_of_ble_eq_true rfl) ?_
        show WR (CalR d) t_X9_namesLabel 9 (some .boolean) _ 0 [(0, .int (nI k))] [] _
        refine R_iload_n rfl rfl ?_
        refine R_bipush (y := nI 13) rfl (by decide) ?_
        refine R_icF rfl (by first | assumption | exact icF (by decide) | exact ic_F (by omega) (by omega) (by simp only [icN, not_true_eq_false, not_false_eq_true] <;> omega) | exact ic_F0 (by omega) (by simp only [icN, not_true_eq_false, not_false_eq_true] <;> omega)) ?_
        refine R_iload_n rfl rfl ?_
        refine R_bipush (y := nI 14) rfl (by decide) ?_
        refine R_icF rfl (by first | assumption | exact icF (by decide) | exact ic_F (by omega) (by omega) (by simp only [icN, not_true_eq_false, not_false_eq_true] <;> omega) | exact ic_F0 (by omega) (by simp only [icN, not_true_eq_false, not_false_eq_true] <;> omega)) ?_
        refine R_iload_n rfl rfl ?_
        refine R_bipush (y := nI 28) rfl (by decide) ?_
        refine R_icT (pc' := 22) rfl rfl (by first | assumption | exact icT (by decide) | exact ic_T (by omega) (by omega) (by simp only [icN, not_true_eq_false, not_false_eq_true] <;> omega) | exact ic_T0 (by omega) (by simp only [icN, not_true_eq_false, not_false_eq_true] <;> omega)) ?_
        refine R_iconst (y := nI 0) rfl (by decide) ?_
        exact R_iret rfl rfl (by first | trivial | exact Or.inl rfl | exact Or.inr rfl | assumption | exact b01) ⟨rfl, rfl⟩
