/-! ===== the reference: one step ===== -/
def wtl : List Nat := [0, 0, 0, 1, 1, 2, 2, 2, 2, 2, 2, 2, 2, 0, 1, 0, 1, 0, 1, 1, 1, 1, 2, 1, 1, 1, 2, 1, 0, 0, 0, 1, 1, 0, 0]
/-- how many values an operation wants -/
def wnt (o b : Nat) : Nat := if o = 29 then b + 1 else wtl.getD o 0
theorem r_wants0 {d : Nat} {M : Mem} {b : Nat} : CalR (d + 1) j_X9_wants [.int (nI 0), .int (nI b)] M (some (.int (nI (wnt 0 b)))) M := by
  refine CalR_of (md := md_X9_wants) rfl (Nat.le_of_ble_eq_true rfl) ?_
  show WR (CalR d) t_X9_wants 9 (some .int) _ 0 [(0, .int (nI 0)), (1, .int (nI b))] [] _
  refine R_iload_n rfl rfl ?_
  refine R_table (pc' := 144) rfl (by decide) ?_
  refine R_iconst (y := nI 0) rfl (by decide) ?_
  exact R_iret rfl rfl (by first | trivial | exact Or.inl rfl | exact Or.inr rfl | assumption) ⟨rfl, rfl⟩
theorem r_wants1 {d : Nat} {M : Mem} {b : Nat} : CalR (d + 1) j_X9_wants [.int (nI 1), .int (nI b)] M (some (.int (nI (wnt 1 b)))) M := by
  refine CalR_of (md := md_X9_wants) rfl (Nat.le_of_ble_eq_true rfl) ?_
  show WR (CalR d) t_X9_wants 9 (some .int) _ 0 [(0, .int (nI 1)), (1, .int (nI b))] [] _
  refine R_iload_n rfl rfl ?_
  refine R_table (pc' := 144) rfl (by decide) ?_
  refine R_iconst (y := nI 0) rfl (by decide) ?_
  exact R_iret rfl rfl (by first | trivial | exact Or.inl rfl | exact Or.inr rfl | assumption) ⟨rfl, rfl⟩
theorem r_wants2 {d : Nat} {M : Mem} {b : Nat} : CalR (d + 1) j_X9_wants [.int (nI 2), .int (nI b)] M (some (.int (nI (wnt 2 b)))) M := by
  refine CalR_of (md := md_X9_wants) rfl (Nat.le_of_ble_eq_true rfl) ?_
  show WR (CalR d) t_X9_wants 9 (some .int) _ 0 [(0, .int (nI 2)), (1, .int (nI b))] [] _
  refine R_iload_n rfl rfl ?_
  refine R_table (pc' := 144) rfl (by decide) ?_
  refine R_iconst (y := nI 0) rfl (by decide) ?_
  exact R_iret rfl rfl (by first | trivial | exact Or.inl rfl | exact Or.inr rfl | assumption) ⟨rfl, rfl⟩
theorem r_wants3 {d : Nat} {M : Mem} {b : Nat} : CalR (d + 1) j_X9_wants [.int (nI 3), .int (nI b)] M (some (.int (nI (wnt 3 b)))) M := by
  refine CalR_of (md := md_X9_wants) rfl (Nat.le_of_ble_eq_true rfl) ?_
  show WR (CalR d) t_X9_wants 9 (some .int) _ 0 [(0, .int (nI 3)), (1, .int (nI b))] [] _
  refine R_iload_n rfl rfl ?_
  refine R_table (pc' := 136) rfl (by decide) ?_
  refine R_iconst (y := nI 1) rfl (by decide) ?_
  exact R_iret rfl rfl (by first | trivial | exact Or.inl rfl | exact Or.inr rfl | assumption) ⟨rfl, rfl⟩
theorem r_wants4 {d : Nat} {M : Mem} {b : Nat} : CalR (d + 1) j_X9_wants [.int (nI 4), .int (nI b)] M (some (.int (nI (wnt 4 b)))) M := by
  refine CalR_of (md := md_X9_wants) rfl (Nat.le_of_ble_eq_true rfl) ?_
  show WR (CalR d) t_X9_wants 9 (some .int) _ 0 [(0, .int (nI 4)), (1, .int (nI b))] [] _
  refine R_iload_n rfl rfl ?_
  refine R_table (pc' := 136) rfl (by decide) ?_
  refine R_iconst (y := nI 1) rfl (by decide) ?_
  exact R_iret rfl rfl (by first | trivial | exact Or.inl rfl | exact Or.inr rfl | assumption) ⟨rfl, rfl⟩
theorem r_wants5 {d : Nat} {M : Mem} {b : Nat} : CalR (d + 1) j_X9_wants [.int (nI 5), .int (nI b)] M (some (.int (nI (wnt 5 b)))) M := by
  refine CalR_of (md := md_X9_wants) rfl (Nat.le_of_ble_eq_true rfl) ?_
  show WR (CalR d) t_X9_wants 9 (some .int) _ 0 [(0, .int (nI 5)), (1, .int (nI b))] [] _
  refine R_iload_n rfl rfl ?_
  refine R_table (pc' := 138) rfl (by decide) ?_
  refine R_iconst (y := nI 2) rfl (by decide) ?_
  exact R_iret rfl rfl (by first | trivial | exact Or.inl rfl | exact Or.inr rfl | assumption) ⟨rfl, rfl⟩
theorem r_wants6 {d : Nat} {M : Mem} {b : Nat} : CalR (d + 1) j_X9_wants [.int (nI 6), .int (nI b)] M (some (.int (nI (wnt 6 b)))) M := by
  refine CalR_of (md := md_X9_wants) rfl (Nat.le_of_ble_eq_true rfl) ?_
  show WR (CalR d) t_X9_wants 9 (some .int) _ 0 [(0, .int (nI 6)), (1, .int (nI b))] [] _
  refine R_iload_n rfl rfl ?_
  refine R_table (pc' := 138) rfl (by decide) ?_
  refine R_iconst (y := nI 2) rfl (by decide) ?_
  exact R_iret rfl rfl (by first | trivial | exact Or.inl rfl | exact Or.inr rfl | assumption) ⟨rfl, rfl⟩
theorem r_wants7 {d : Nat} {M : Mem} {b : Nat} : CalR (d + 1) j_X9_wants [.int (nI 7), .int (nI b)] M (some (.int (nI (wnt 7 b)))) M := by
  refine CalR_of (md := md_X9_wants) rfl (Nat.le_of_ble_eq_true rfl) ?_
  show WR (CalR d) t_X9_wants 9 (some .int) _ 0 [(0, .int (nI 7)), (1, .int (nI b))] [] _
  refine R_iload_n rfl rfl ?_
  refine R_table (pc' := 138) rfl (by decide) ?_
  refine R_iconst (y := nI 2) rfl (by decide) ?_
  exact R_iret rfl rfl (by first | trivial | exact Or.inl rfl | exact Or.inr rfl | assumption) ⟨rfl, rfl⟩
theorem r_wants8 {d : Nat} {M : Mem} {b : Nat} : CalR (d + 1) j_X9_wants [.int (nI 8), .int (nI b)] M (some (.int (nI (wnt 8 b)))) M := by
  refine CalR_of (md := md_X9_wants) rfl (Nat.le_of_ble_eq_true rfl) ?_
  show WR (CalR d) t_X9_wants 9 (some .int) _ 0 [(0, .int (nI 8)), (1, .int (nI b))] [] _
  refine R_iload_n rfl rfl ?_
  refine R_table (pc' := 138) rfl (by decide) ?_
  refine R_iconst (y := nI 2) rfl (by decide) ?_
  exact R_iret rfl rfl (by first | trivial | exact Or.inl rfl | exact Or.inr rfl | assumption) ⟨rfl, rfl⟩
theorem r_wants9 {d : Nat} {M : Mem} {b : Nat} : CalR (d + 1) j_X9_wants [.int (nI 9), .int (nI b)] M (some (.int (nI (wnt 9 b)))) M := by
  refine CalR_of (md := md_X9_wants) rfl (Nat.le_of_ble_eq_true rfl) ?_
  show WR (CalR d) t_X9_wants 9 (some .int) _ 0 [(0, .int (nI 9)), (1, .int (nI b))] [] _
  refine R_iload_n rfl rfl ?_
  refine R_table (pc' := 138) rfl (by decide) ?_
  refine R_iconst (y := nI 2) rfl (by decide) ?_
  exact R_iret rfl rfl (by first | trivial | exact Or.inl rfl | exact Or.inr rfl | assumption) ⟨rfl, rfl⟩
theorem r_wants10 {d : Nat} {M : Mem} {b : Nat} : CalR (d + 1) j_X9_wants [.int (nI 10), .int (nI b)] M (some (.int (nI (wnt 10 b)))) M := by
  refine CalR_of (md := md_X9_wants) rfl (Nat.le_of_ble_eq_true rfl) ?_
  show WR (CalR d) t_X9_wants 9 (some .int) _ 0 [(0, .int (nI 10)), (1, .int (nI b))] [] _
  refine R_iload_n rfl rfl ?_
  refine R_table (pc' := 138) rfl (by decide) ?_
  refine R_iconst (y := nI 2) rfl (by decide) ?_
  exact R_iret rfl rfl (by first | trivial | exact Or.inl rfl | exact Or.inr rfl | assumption) ⟨rfl, rfl⟩
theorem r_wants11 {d : Nat} {M : Mem} {b : Nat} : CalR (d + 1) j_X9_wants [.int (nI 11), .int (nI b)] M (some (.int (nI (wnt 11 b)))) M := by
  refine CalR_of (md := md_X9_wants) rfl (Nat.le_of_ble_eq_true rfl) ?_
  show WR (CalR d) t_X9_wants 9 (some .int) _ 0 [(0, .int (nI 11)), (1, .int (nI b))] [] _
  refine R_iload_n rfl rfl ?_
  refine R_table (pc' := 138) rfl (by decide) ?_
  refine R_iconst (y := nI 2) rfl (by decide) ?_
  exact R_iret rfl rfl (by first | trivial | exact Or.inl rfl | exact Or.inr rfl | assumption) ⟨rfl, rfl⟩
theorem r_wants12 {d : Nat} {M : Mem} {b : Nat} : CalR (d + 1) j_X9_wants [.int (nI 12), .int (nI b)] M (some (.int (nI (wnt 12 b)))) M := by
  refine CalR_of (md := md_X9_wants) rfl (Nat.le_of_ble_eq_true rfl) ?_
  show WR (CalR d) t_X9_wants 9 (some .int) _ 0 [(0, .int (nI 12)), (1, .int (nI b))] [] _
  refine R_iload_n rfl rfl ?_
  refine R_table (pc' := 138) rfl (by decide) ?_
  refine R_iconst (y := nI 2) rfl (by decide) ?_
  exact R_iret rfl rfl (by first | trivial | exact Or.inl rfl | exact Or.inr rfl | assumption) ⟨rfl, rfl⟩
theorem r_wants13 {d : Nat} {M : Mem} {b : Nat} : CalR (d + 1) j_X9_wants [.int (nI 13), .int (nI b)] M (some (.int (nI (wnt 13 b)))) M := by
  refine CalR_of (md := md_X9_wants) rfl (Nat.le_of_ble_eq_true rfl) ?_
  show WR (CalR d) t_X9_wants 9 (some .int) _ 0 [(0, .int (nI 13)), (1, .int (nI b))] [] _
  refine R_iload_n rfl rfl ?_
  refine R_table (pc' := 144) rfl (by decide) ?_
  refine R_iconst (y := nI 0) rfl (by decide) ?_
  exact R_iret rfl rfl (by first | trivial | exact Or.inl rfl | exact Or.inr rfl | assumption) ⟨rfl, rfl⟩
theorem r_wants14 {d : Nat} {M : Mem} {b : Nat} : CalR (d + 1) j_X9_wants [.int (nI 14), .int (nI b)] M (some (.int (nI (wnt 14 b)))) M := by
  refine CalR_of (md := md_X9_wants) rfl (Nat.le_of_ble_eq_true rfl) ?_
  show WR (CalR d) t_X9_wants 9 (some .int) _ 0 [(0, .int (nI 14)), (1, .int (nI b))] [] _
  refine R_iload_n rfl rfl ?_
  refine R_table (pc' := 136) rfl (by decide) ?_
  refine R_iconst (y := nI 1) rfl (by decide) ?_
  exact R_iret rfl rfl (by first | trivial | exact Or.inl rfl | exact Or.inr rfl | assumption) ⟨rfl, rfl⟩
theorem r_wants15 {d : Nat} {M : Mem} {b : Nat} : CalR (d + 1) j_X9_wants [.int (nI 15), .int (nI b)] M (some (.int (nI (wnt 15 b)))) M := by
  refine CalR_of (md := md_X9_wants) rfl (Nat.le_of_ble_eq_true rfl) ?_
  show WR (CalR d) t_X9_wants 9 (some .int) _ 0 [(0, .int (nI 15)), (1, .int (nI b))] [] _
  refine R_iload_n rfl rfl ?_
  refine R_table (pc' := 144) rfl (by decide) ?_
  refine R_iconst (y := nI 0) rfl (by decide) ?_
  exact R_iret rfl rfl (by first | trivial | exact Or.inl rfl | exact Or.inr rfl | assumption) ⟨rfl, rfl⟩
theorem r_wants16 {d : Nat} {M : Mem} {b : Nat} : CalR (d + 1) j_X9_wants [.int (nI 16), .int (nI b)] M (some (.int (nI (wnt 16 b)))) M := by
  refine CalR_of (md := md_X9_wants) rfl (Nat.le_of_ble_eq_true rfl) ?_
  show WR (CalR d) t_X9_wants 9 (some .int) _ 0 [(0, .int (nI 16)), (1, .int (nI b))] [] _
  refine R_iload_n rfl rfl ?_
  refine R_table (pc' := 136) rfl (by decide) ?_
  refine R_iconst (y := nI 1) rfl (by decide) ?_
  exact R_iret rfl rfl (by first | trivial | exact Or.inl rfl | exact Or.inr rfl | assumption) ⟨rfl, rfl⟩
theorem r_wants17 {d : Nat} {M : Mem} {b : Nat} : CalR (d + 1) j_X9_wants [.int (nI 17), .int (nI b)] M (some (.int (nI (wnt 17 b)))) M := by
  refine CalR_of (md := md_X9_wants) rfl (Nat.le_of_ble_eq_true rfl) ?_
  show WR (CalR d) t_X9_wants 9 (some .int) _ 0 [(0, .int (nI 17)), (1, .int (nI b))] [] _
  refine R_iload_n rfl rfl ?_
  refine R_table (pc' := 144) rfl (by decide) ?_
  refine R_iconst (y := nI 0) rfl (by decide) ?_
  exact R_iret rfl rfl (by first | trivial | exact Or.inl rfl | exact Or.inr rfl | assumption) ⟨rfl, rfl⟩
theorem r_wants18 {d : Nat} {M : Mem} {b : Nat} : CalR (d + 1) j_X9_wants [.int (nI 18), .int (nI b)] M (some (.int (nI (wnt 18 b)))) M := by
  refine CalR_of (md := md_X9_wants) rfl (Nat.le_of_ble_eq_true rfl) ?_
  show WR (CalR d) t_X9_wants 9 (some .int) _ 0 [(0, .int (nI 18)), (1, .int (nI b))] [] _
  refine R_iload_n rfl rfl ?_
  refine R_table (pc' := 136) rfl (by decide) ?_
  refine R_iconst (y := nI 1) rfl (by decide) ?_
  exact R_iret rfl rfl (by first | trivial | exact Or.inl rfl | exact Or.inr rfl | assumption) ⟨rfl, rfl⟩
theorem r_wants19 {d : Nat} {M : Mem} {b : Nat} : CalR (d + 1) j_X9_wants [.int (nI 19), .int (nI b)] M (some (.int (nI (wnt 19 b)))) M := by
  refine CalR_of (md := md_X9_wants) rfl (Nat.le_of_ble_eq_true rfl) ?_
  show WR (CalR d) t_X9_wants 9 (some .int) _ 0 [(0, .int (nI 19)), (1, .int (nI b))] [] _
  refine R_iload_n rfl rfl ?_
  refine R_table (pc' := 136) rfl (by decide) ?_
  refine R_iconst (y := nI 1) rfl (by decide) ?_
  exact R_iret rfl rfl (by first | trivial | exact Or.inl rfl | exact Or.inr rfl | assumption) ⟨rfl, rfl⟩
theorem r_wants20 {d : Nat} {M : Mem} {b : Nat} : CalR (d + 1) j_X9_wants [.int (nI 20), .int (nI b)] M (some (.int (nI (wnt 20 b)))) M := by
  refine CalR_of (md := md_X9_wants) rfl (Nat.le_of_ble_eq_true rfl) ?_
  show WR (CalR d) t_X9_wants 9 (some .int) _ 0 [(0, .int (nI 20)), (1, .int (nI b))] [] _
  refine R_iload_n rfl rfl ?_
  refine R_table (pc' := 136) rfl (by decide) ?_
  refine R_iconst (y := nI 1) rfl (by decide) ?_
  exact R_iret rfl rfl (by first | trivial | exact Or.inl rfl | exact Or.inr rfl | assumption) ⟨rfl, rfl⟩
theorem r_wants21 {d : Nat} {M : Mem} {b : Nat} : CalR (d + 1) j_X9_wants [.int (nI 21), .int (nI b)] M (some (.int (nI (wnt 21 b)))) M := by
  refine CalR_of (md := md_X9_wants) rfl (Nat.le_of_ble_eq_true rfl) ?_
  show WR (CalR d) t_X9_wants 9 (some .int) _ 0 [(0, .int (nI 21)), (1, .int (nI b))] [] _
  refine R_iload_n rfl rfl ?_
  refine R_table (pc' := 136) rfl (by decide) ?_
  refine R_iconst (y := nI 1) rfl (by decide) ?_
  exact R_iret rfl rfl (by first | trivial | exact Or.inl rfl | exact Or.inr rfl | assumption) ⟨rfl, rfl⟩
theorem r_wants22 {d : Nat} {M : Mem} {b : Nat} : CalR (d + 1) j_X9_wants [.int (nI 22), .int (nI b)] M (some (.int (nI (wnt 22 b)))) M := by
  refine CalR_of (md := md_X9_wants) rfl (Nat.le_of_ble_eq_true rfl) ?_
  show WR (CalR d) t_X9_wants 9 (some .int) _ 0 [(0, .int (nI 22)), (1, .int (nI b))] [] _
  refine R_iload_n rfl rfl ?_
  refine R_table (pc' := 138) rfl (by decide) ?_
  refine R_iconst (y := nI 2) rfl (by decide) ?_
  exact R_iret rfl rfl (by first | trivial | exact Or.inl rfl | exact Or.inr rfl | assumption) ⟨rfl, rfl⟩
theorem r_wants23 {d : Nat} {M : Mem} {b : Nat} : CalR (d + 1) j_X9_wants [.int (nI 23), .int (nI b)] M (some (.int (nI (wnt 23 b)))) M := by
  refine CalR_of (md := md_X9_wants) rfl (Nat.le_of_ble_eq_true rfl) ?_
  show WR (CalR d) t_X9_wants 9 (some .int) _ 0 [(0, .int (nI 23)), (1, .int (nI b))] [] _
  refine R_iload_n rfl rfl ?_
  refine R_table (pc' := 136) rfl (by decide) ?_
  refine R_iconst (y := nI 1) rfl (by decide) ?_
  exact R_iret rfl rfl (by first | trivial | exact Or.inl rfl | exact Or.inr rfl | assumption) ⟨rfl, rfl⟩
theorem r_wants24 {d : Nat} {M : Mem} {b : Nat} : CalR (d + 1) j_X9_wants [.int (nI 24), .int (nI b)] M (some (.int (nI (wnt 24 b)))) M := by
  refine CalR_of (md := md_X9_wants) rfl (Nat.le_of_ble_eq_true rfl) ?_
  show WR (CalR d) t_X9_wants 9 (some .int) _ 0 [(0, .int (nI 24)), (1, .int (nI b))] [] _
  refine R_iload_n rfl rfl ?_
  refine R_table (pc' := 136) rfl (by decide) ?_
  refine R_iconst (y := nI 1) rfl (by decide) ?_
  exact R_iret rfl rfl (by first | trivial | exact Or.inl rfl | exact Or.inr rfl | assumption) ⟨rfl, rfl⟩
theorem r_wants25 {d : Nat} {M : Mem} {b : Nat} : CalR (d + 1) j_X9_wants [.int (nI 25), .int (nI b)] M (some (.int (nI (wnt 25 b)))) M := by
  refine CalR_of (md := md_X9_wants) rfl (Nat.le_of_ble_eq_true rfl) ?_
  show WR (CalR d) t_X9_wants 9 (some .int) _ 0 [(0, .int (nI 25)), (1, .int (nI b))] [] _
  refine R_iload_n rfl rfl ?_
  refine R_table (pc' := 136) rfl (by decide) ?_
  refine R_iconst (y := nI 1) rfl (by decide) ?_
  exact R_iret rfl rfl (by first | trivial | exact Or.inl rfl | exact Or.inr rfl | assumption) ⟨rfl, rfl⟩
theorem r_wants26 {d : Nat} {M : Mem} {b : Nat} : CalR (d + 1) j_X9_wants [.int (nI 26), .int (nI b)] M (some (.int (nI (wnt 26 b)))) M := by
  refine CalR_of (md := md_X9_wants) rfl (Nat.le_of_ble_eq_true rfl) ?_
  show WR (CalR d) t_X9_wants 9 (some .int) _ 0 [(0, .int (nI 26)), (1, .int (nI b))] [] _
  refine R_iload_n rfl rfl ?_
  refine R_table (pc' := 138) rfl (by decide) ?_
  refine R_iconst (y := nI 2) rfl (by decide) ?_
  exact R_iret rfl rfl (by first | trivial | exact Or.inl rfl | exact Or.inr rfl | assumption) ⟨rfl, rfl⟩
theorem r_wants27 {d : Nat} {M : Mem} {b : Nat} : CalR (d + 1) j_X9_wants [.int (nI 27), .int (nI b)] M (some (.int (nI (wnt 27 b)))) M := by
  refine CalR_of (md := md_X9_wants) rfl (Nat.le_of_ble_eq_true rfl) ?_
  show WR (CalR d) t_X9_wants 9 (some .int) _ 0 [(0, .int (nI 27)), (1, .int (nI b))] [] _
  refine R_iload_n rfl rfl ?_
  refine R_table (pc' := 136) rfl (by decide) ?_
  refine R_iconst (y := nI 1) rfl (by decide) ?_
  exact R_iret rfl rfl (by first | trivial | exact Or.inl rfl | exact Or.inr rfl | assumption) ⟨rfl, rfl⟩
theorem r_wants28 {d : Nat} {M : Mem} {b : Nat} : CalR (d + 1) j_X9_wants [.int (nI 28), .int (nI b)] M (some (.int (nI (wnt 28 b)))) M := by
  refine CalR_of (md := md_X9_wants) rfl (Nat.le_of_ble_eq_true rfl) ?_
  show WR (CalR d) t_X9_wants 9 (some .int) _ 0 [(0, .int (nI 28)), (1, .int (nI b))] [] _
  refine R_iload_n rfl rfl ?_
  refine R_table (pc' := 144) rfl (by decide) ?_
  refine R_iconst (y := nI 0) rfl (by decide) ?_
  exact R_iret rfl rfl (by first | trivial | exact Or.inl rfl | exact Or.inr rfl | assumption) ⟨rfl, rfl⟩
theorem r_wants29 {d : Nat} {M : Mem} {b : Nat} : CalR (d + 1) j_X9_wants [.int (nI 29), .int (nI b)] M (some (.int (nI (wnt 29 b)))) M := by
  refine CalR_of (md := md_X9_wants) rfl (Nat.le_of_ble_eq_true rfl) ?_
  show WR (CalR d) t_X9_wants 9 (some .int) _ 0 [(0, .int (nI 29)), (1, .int (nI b))] [] _
  refine R_iload_n rfl rfl ?_
  refine R_table (pc' := 140) rfl (by decide) ?_
  refine R_iload_n rfl rfl ?_
  refine R_iconst (y := nI 1) rfl (by decide) ?_
  first | refine R_iaddN rfl ?_ | refine R_iadd rfl ?_
  exact R_iret rfl rfl (by first | trivial | exact Or.inl rfl | exact Or.inr rfl | assumption) ⟨rfl, rfl⟩
theorem r_wants30 {d : Nat} {M : Mem} {b : Nat} : CalR (d + 1) j_X9_wants [.int (nI 30), .int (nI b)] M (some (.int (nI (wnt 30 b)))) M := by
  refine CalR_of (md := md_X9_wants) rfl (Nat.le_of_ble_eq_true rfl) ?_
  show WR (CalR d) t_X9_wants 9 (some .int) _ 0 [(0, .int (nI 30)), (1, .int (nI b))] [] _
  refine R_iload_n rfl rfl ?_
  refine R_table (pc' := 144) rfl (by decide) ?_
  refine R_iconst (y := nI 0) rfl (by decide) ?_
  exact R_iret rfl rfl (by first | trivial | exact Or.inl rfl | exact Or.inr rfl | assumption) ⟨rfl, rfl⟩
theorem r_wants31 {d : Nat} {M : Mem} {b : Nat} : CalR (d + 1) j_X9_wants [.int (nI 31), .int (nI b)] M (some (.int (nI (wnt 31 b)))) M := by
  refine CalR_of (md := md_X9_wants) rfl (Nat.le_of_ble_eq_true rfl) ?_
  show WR (CalR d) t_X9_wants 9 (some .int) _ 0 [(0, .int (nI 31)), (1, .int (nI b))] [] _
  refine R_iload_n rfl rfl ?_
  refine R_table (pc' := 136) rfl (by decide) ?_
  refine R_iconst (y := nI 1) rfl (by decide) ?_
  exact R_iret rfl rfl (by first | trivial | exact Or.inl rfl | exact Or.inr rfl | assumption) ⟨rfl, rfl⟩
theorem r_wants32 {d : Nat} {M : Mem} {b : Nat} : CalR (d + 1) j_X9_wants [.int (nI 32), .int (nI b)] M (some (.int (nI (wnt 32 b)))) M := by
  refine CalR_of (md := md_X9_wants) rfl (Nat.le_of_ble_eq_true rfl) ?_
  show WR (CalR d) t_X9_wants 9 (some .int) _ 0 [(0, .int (nI 32)), (1, .int (nI b))] [] _
  refine R_iload_n rfl rfl ?_
  refine R_table (pc' := 136) rfl (by decide) ?_
  refine R_iconst (y := nI 1) rfl (by decide) ?_
  exact R_iret rfl rfl (by first | trivial | exact Or.inl rfl | exact Or.inr rfl | assumption) ⟨rfl, rfl⟩
theorem r_wants33 {d : Nat} {M : Mem} {b : Nat} : CalR (d + 1) j_X9_wants [.int (nI 33), .int (nI b)] M (some (.int (nI (wnt 33 b)))) M := by
  refine CalR_of (md := md_X9_wants) rfl (Nat.le_of_ble_eq_true rfl) ?_
  show WR (CalR d) t_X9_wants 9 (some .int) _ 0 [(0, .int (nI 33)), (1, .int (nI b))] [] _
  refine R_iload_n rfl rfl ?_
  refine R_table (pc' := 144) rfl (by decide) ?_
  refine R_iconst (y := nI 0) rfl (by decide) ?_
  exact R_iret rfl rfl (by first | trivial | exact Or.inl rfl | exact Or.inr rfl | assumption) ⟨rfl, rfl⟩
theorem r_wants34 {d : Nat} {M : Mem} {b : Nat} : CalR (d + 1) j_X9_wants [.int (nI 34), .int (nI b)] M (some (.int (nI (wnt 34 b)))) M := by
  refine CalR_of (md := md_X9_wants) rfl (Nat.le_of_ble_eq_true rfl) ?_
  show WR (CalR d) t_X9_wants 9 (some .int) _ 0 [(0, .int (nI 34)), (1, .int (nI b))] [] _
  refine R_iload_n rfl rfl ?_
  refine R_table (pc' := 144) rfl (by decide) ?_
  refine R_iconst (y := nI 0) rfl (by decide) ?_
  exact R_iret rfl rfl (by first | trivial | exact Or.inl rfl | exact Or.inr rfl | assumption) ⟨rfl, rfl⟩
theorem r_one0 {d : Nat} {M : Mem} {a w s : Nat} (ha : M 10 0 = nI a) (hw : M 5 0 = nI w) (ha2 : a ≤ 2000) (hw2 : w ≤ 2000) (hs : M 11 0 = nI s) (h : a < w → M 2 a = nI 0) : CalR (d + 2) j_X9_oneStep [.ref 0] M (some (.int (nI 1))) (up2 (up2 M 11 0 (nI (s + 1))) 9 0 (nI 1)) := by
  by_cases haw : a < w
  · have h0 := h haw
    refine CalR_of (md := md_X9_oneStep) (d := d + 1) rfl (Nat.le_of_ble_eq_true rfl) ?_
    show WR (CalR (d + 1)) t_X9_oneStep 9 (some .int) _ 0 [(0, .ref 0)] [] _
    refine R_aload_n rfl rfl ?_
    refine R_getI rfl rfl (Or.inl rfl) ?_
    try refine R_top (y := nI _) (by assumption) ?_
    refine R_aload_n rfl rfl ?_
    refine R_getI rfl rfl (Or.inl rfl) ?_
    try refine R_top (y := nI _) (by assumption) ?_
    refine R_icF rfl (by first | assumption | exact icF (by decide) | exact ic_F (by omega) (by omega) (by simp only [icN, not_true_eq_false, not_false_eq_true] <;> omega) | exact ic_F0 (by omega) (by simp only [icN, not_true_eq_false, not_false_eq_true] <;> omega)) ?_
    refine R_aload_n rfl rfl ?_
    refine R_getA rfl rfl (Or.inl rfl) ?_
    refine R_aload_n rfl rfl ?_
    refine R_getI rfl rfl (Or.inl rfl) ?_
    try refine R_top (y := nI _) (by assumption) ?_
    refine R_iald rfl rfl rfl (show _ < 2000 from by omega) ?_
    try refine R_top (y := nI _) (by assumption) ?_
    refine R_ifF rfl (by first | assumption | exact icF (by decide) | exact ic_F (by omega) (by omega) (by simp only [icN, not_true_eq_false, not_false_eq_true] <;> omega) | exact ic_F0 (by omega) (by simp only [icN, not_true_eq_false, not_false_eq_true] <;> omega)) ?_
    refine R_aload_n rfl rfl ?_
    refine R_dup rfl ?_
    refine R_getI rfl rfl (Or.inl rfl) ?_
    try refine R_top (y := nI _) (by assumption) ?_
    refine R_iconst (y := nI 1) rfl (by decide) ?_
    first | refine R_iaddN rfl ?_ | refine R_iadd rfl ?_
    refine R_put rfl rfl rfl ?_
    refine R_aload_n rfl rfl ?_
    refine R_iconst (y := nI 1) rfl (by decide) ?_
    refine R_virt rfl rfl rfl rfl rfl rfl rfl (Nat.le_of_ble_eq_true rfl) (fun _ q => by cases q) (r_ends) ?_
    try refine R_top (y := nI _) (by assumption) ?_
    exact R_iret rfl rfl (by first | trivial | exact Or.inl rfl | exact Or.inr rfl | assumption) ⟨rfl, rfl⟩
  · refine CalR_of (md := md_X9_oneStep) (d := d + 1) rfl (Nat.le_of_ble_eq_true rfl) ?_
    show WR (CalR (d + 1)) t_X9_oneStep 9 (some .int) _ 0 [(0, .ref 0)] [] _
    refine R_aload_n rfl rfl ?_
    refine R_getI rfl rfl (Or.inl rfl) ?_
    try refine R_top (y := nI _) (by assumption) ?_
    refine R_aload_n rfl rfl ?_
    refine R_getI rfl rfl (Or.inl rfl) ?_
    try refine R_top (y := nI _) (by assumption) ?_
    refine R_icT (pc' := 23) rfl rfl (by first | assumption | exact icT (by decide) | exact ic_T (by omega) (by omega) (by simp only [icN, not_true_eq_false, not_false_eq_true] <;> omega) | exact ic_T0 (by omega) (by simp only [icN, not_true_eq_false, not_false_eq_true] <;> omega)) ?_
    refine R_aload_n rfl rfl ?_
    refine R_dup rfl ?_
    refine R_getI rfl rfl (Or.inl rfl) ?_
    try refine R_top (y := nI _) (by assumption) ?_
    refine R_iconst (y := nI 1) rfl (by decide) ?_
    first | refine R_iaddN rfl ?_ | refine R_iadd rfl ?_
    refine R_put rfl rfl rfl ?_
    refine R_aload_n rfl rfl ?_
    refine R_iconst (y := nI 1) rfl (by decide) ?_
    refine R_virt rfl rfl rfl rfl rfl rfl rfl (Nat.le_of_ble_eq_true rfl) (fun _ q => by cases q) (r_ends) ?_
    try refine R_top (y := nI _) (by assumption) ?_
    exact R_iret rfl rfl (by first | trivial | exact Or.inl rfl | exact Or.inr rfl | assumption) ⟨rfl, rfl⟩
theorem r_short3 {d : Nat} {M : Mem} {a w p f q b s : Nat} (ha : M 10 0 = nI a) (hw : M 5 0 = nI w) (haw : a < w) (hw2 : w ≤ 2000) (hB : M 4 a = nI b) (hb2 : b ≤ 15) (hp : M 14 0 = nI p) (hp1 : p ≤ 1000) (hf : M 22 0 = nI f) (hf0 : 0 < f) (hf1 : f ≤ 200) (hq : M 15 (f - 1) = nI q) (hqp : q ≤ p) (ho : M 2 a = nI 3) (hsh : p - q < wnt 3 b) : CalR (d + 2) j_X9_oneStep [.ref 0] M (some (.int (nI 5))) (up2 M 9 0 (nI 5)) := by
  have hsh : p - q < 1 := hsh
  have hwn : nI (wnt 3 b) = nI (1) := rfl
  refine CalR_of (md := md_X9_oneStep) (d := d + 1) rfl (Nat.le_of_ble_eq_true rfl) ?_
  show WR (CalR (d + 1)) t_X9_oneStep 9 (some .int) _ 0 [(0, .ref 0)] [] _
  refine R_aload_n rfl rfl ?_
  refine R_getI rfl rfl (Or.inl rfl) ?_
  try refine R_top (y := nI _) (by assumption) ?_
  refine R_aload_n rfl rfl ?_
  refine R_getI rfl rfl (Or.inl rfl) ?_
  try refine R_top (y := nI _) (by assumption) ?_
  refine R_icF rfl (by first | assumption | exact icF (by decide) | exact ic_F (by omega) (by omega) (by simp only [icN, not_true_eq_false, not_false_eq_true] <;> omega) | exact ic_F0 (by omega) (by simp only [icN, not_true_eq_false, not_false_eq_true] <;> omega)) ?_
  refine R_aload_n rfl rfl ?_
  refine R_getA rfl rfl (Or.inl rfl) ?_
  refine R_aload_n rfl rfl ?_
  refine R_getI rfl rfl (Or.inl rfl) ?_
  try refine R_top (y := nI _) (by assumption) ?_
  refine R_iald rfl rfl rfl (show _ < 2000 from by omega) ?_
  try refine R_top (y := nI _) (by assumption) ?_
  refine R_ifT (pc' := 39) rfl rfl (by first | assumption | exact icT (by decide) | exact ic_T (by omega) (by omega) (by simp only [icN, not_true_eq_false, not_false_eq_true] <;> omega) | exact ic_T0 (by omega) (by simp only [icN, not_true_eq_false, not_false_eq_true] <;> omega)) ?_
  refine R_aload_n rfl rfl ?_
  refine R_getA rfl rfl (Or.inl rfl) ?_
  refine R_aload_n rfl rfl ?_
  refine R_getI rfl rfl (Or.inl rfl) ?_
  try refine R_top (y := nI _) (by assumption) ?_
  refine R_iald rfl rfl rfl (show _ < 2000 from by omega) ?_
  try refine R_top (y := nI _) (by assumption) ?_
  refine R_istore_n (lv' := [(1, _), (0, _)]) rfl rfl ?_
  refine R_aload_n rfl rfl ?_
  refine R_getA rfl rfl (Or.inl rfl) ?_
  refine R_aload_n rfl rfl ?_
  refine R_getI rfl rfl (Or.inl rfl) ?_
  try refine R_top (y := nI _) (by assumption) ?_
  refine R_iald rfl rfl rfl (show _ < 2000 from by omega) ?_
  try refine R_top (y := nI _) (by assumption) ?_
  refine R_istore_n (lv' := [(2, _), (1, _), (0, _)]) rfl rfl ?_
  refine R_aload_n rfl rfl ?_
  refine R_getI rfl rfl (Or.inl rfl) ?_
  try refine R_top (y := nI _) (by assumption) ?_
  refine R_aload_n rfl rfl ?_
  refine R_getA rfl rfl (Or.inl rfl) ?_
  refine R_aload_n rfl rfl ?_
  refine R_getI rfl rfl (Or.inl rfl) ?_
  try refine R_top (y := nI _) (by assumption) ?_
  refine R_iconst (y := nI 1) rfl (by decide) ?_
  first | refine R_isubN rfl (by omega) ?_ | refine R_isub rfl ?_
  refine R_iald rfl rfl rfl (show _ < 200 from by omega) ?_
  try refine R_top (y := nI _) (by assumption) ?_
  first | refine R_isubN rfl (by omega) ?_ | refine R_isub rfl ?_
  refine R_iload_n rfl rfl ?_
  refine R_aload_n rfl rfl ?_
  refine R_getA rfl rfl (Or.inl rfl) ?_
  refine R_aload_n rfl rfl ?_
  refine R_getI rfl rfl (Or.inl rfl) ?_
  try refine R_top (y := nI _) (by assumption) ?_
  refine R_iald rfl rfl rfl (show _ < 2000 from by omega) ?_
  try refine R_top (y := nI _) (by assumption) ?_
  refine R_stat rfl rfl rfl (Nat.le_of_ble_eq_true rfl) rfl rfl (Nat.le_of_ble_eq_true rfl) (fun _ q => by cases q) (r_wants3) ?_
  try refine R_top (y := nI _) (by assumption) ?_
  refine R_icF rfl (by first | assumption | exact icF (by decide) | exact ic_F (by omega) (by omega) (by simp only [icN, not_true_eq_false, not_false_eq_true] <;> omega) | exact ic_F0 (by omega) (by simp only [icN, not_true_eq_false, not_false_eq_true] <;> omega)) ?_
  refine R_aload_n rfl rfl ?_
  refine R_iconst (y := nI 5) rfl (by decide) ?_
  refine R_virt rfl rfl rfl rfl rfl rfl rfl (Nat.le_of_ble_eq_true rfl) (fun _ q => by cases q) (r_ends) ?_
  try refine R_top (y := nI _) (by assumption) ?_
  exact R_iret rfl rfl (by first | trivial | exact Or.inl rfl | exact Or.inr rfl | assumption) ⟨rfl, rfl⟩
theorem r_short4 {d : Nat} {M : Mem} {a w p f q b s : Nat} (ha : M 10 0 = nI a) (hw : M 5 0 = nI w) (haw : a < w) (hw2 : w ≤ 2000) (hB : M 4 a = nI b) (hb2 : b ≤ 15) (hp : M 14 0 = nI p) (hp1 : p ≤ 1000) (hf : M 22 0 = nI f) (hf0 : 0 < f) (hf1 : f ≤ 200) (hq : M 15 (f - 1) = nI q) (hqp : q ≤ p) (ho : M 2 a = nI 4) (hsh : p - q < wnt 4 b) : CalR (d + 2) j_X9_oneStep [.ref 0] M (some (.int (nI 5))) (up2 M 9 0 (nI 5)) := by
  have hsh : p - q < 1 := hsh
  have hwn : nI (wnt 4 b) = nI (1) := rfl
  refine CalR_of (md := md_X9_oneStep) (d := d + 1) rfl (Nat.le_of_ble_eq_true rfl) ?_
  show WR (CalR (d + 1)) t_X9_oneStep 9 (some .int) _ 0 [(0, .ref 0)] [] _
  refine R_aload_n rfl rfl ?_
  refine R_getI rfl rfl (Or.inl rfl) ?_
  try refine R_top (y := nI _) (by assumption) ?_
  refine R_aload_n rfl rfl ?_
  refine R_getI rfl rfl (Or.inl rfl) ?_
  try refine R_top (y := nI _) (by assumption) ?_
  refine R_icF rfl (by first | assumption | exact icF (by decide) | exact ic_F (by omega) (by omega) (by simp only [icN, not_true_eq_false, not_false_eq_true] <;> omega) | exact ic_F0 (by omega) (by simp only [icN, not_true_eq_false, not_false_eq_true] <;> omega)) ?_
  refine R_aload_n rfl rfl ?_
  refine R_getA rfl rfl (Or.inl rfl) ?_
  refine R_aload_n rfl rfl ?_
  refine R_getI rfl rfl (Or.inl rfl) ?_
  try refine R_top (y := nI _) (by assumption) ?_
  refine R_iald rfl rfl rfl (show _ < 2000 from by omega) ?_
  try refine R_top (y := nI _) (by assumption) ?_
  refine R_ifT (pc' := 39) rfl rfl (by first | assumption | exact icT (by decide) | exact ic_T (by omega) (by omega) (by simp only [icN, not_true_eq_false, not_false_eq_true] <;> omega) | exact ic_T0 (by omega) (by simp only [icN, not_true_eq_false, not_false_eq_true] <;> omega)) ?_
  refine R_aload_n rfl rfl ?_
  refine R_getA rfl rfl (Or.inl rfl) ?_
  refine R_aload_n rfl rfl ?_
  refine R_getI rfl rfl (Or.inl rfl) ?_
  try refine R_top (y := nI _) (by assumption) ?_
  refine R_iald rfl rfl rfl (show _ < 2000 from by omega) ?_
  try refine R_top (y := nI _) (by assumption) ?_
  refine R_istore_n (lv' := [(1, _), (0, _)]) rfl rfl ?_
  refine R_aload_n rfl rfl ?_
  refine R_getA rfl rfl (Or.inl rfl) ?_
  refine R_aload_n rfl rfl ?_
  refine R_getI rfl rfl (Or.inl rfl) ?_
  try refine R_top (y := nI _) (by assumption) ?_
  refine R_iald rfl rfl rfl (show _ < 2000 from by omega) ?_
  try refine R_top (y := nI _) (by assumption) ?_
  refine R_istore_n (lv' := [(2, _), (1, _), (0, _)]) rfl rfl ?_
  refine R_aload_n rfl rfl ?_
  refine R_getI rfl rfl (Or.inl rfl) ?_
  try refine R_top (y := nI _) (by assumption) ?_
  refine R_aload_n rfl rfl ?_
  refine R_getA rfl rfl (Or.inl rfl) ?_
  refine R_aload_n rfl rfl ?_
  refine R_getI rfl rfl (Or.inl rfl) ?_
  try refine R_top (y := nI _) (by assumption) ?_
  refine R_iconst (y := nI 1) rfl (by decide) ?_
  first | refine R_isubN rfl (by omega) ?_ | refine R_isub rfl ?_
  refine R_iald rfl rfl rfl (show _ < 200 from by omega) ?_
  try refine R_top (y := nI _) (by assumption) ?_
  first | refine R_isubN rfl (by omega) ?_ | refine R_isub rfl ?_
  refine R_iload_n rfl rfl ?_
  refine R_aload_n rfl rfl ?_
  refine R_getA rfl rfl (Or.inl rfl) ?_
  refine R_aload_n rfl rfl ?_
  refine R_getI rfl rfl (Or.inl rfl) ?_
  try refine R_top (y := nI _) (by assumption) ?_
  refine R_iald rfl rfl rfl (show _ < 2000 from by omega) ?_
  try refine R_top (y := nI _) (by assumption) ?_
  refine R_stat rfl rfl rfl (Nat.le_of_ble_eq_true rfl) rfl rfl (Nat.le_of_ble_eq_true rfl) (fun _ q => by cases q) (r_wants4) ?_
  try refine R_top (y := nI _) (by assumption) ?_
  refine R_icF rfl (by first | assumption | exact icF (by decide) | exact ic_F (by omega) (by omega) (by simp only [icN, not_true_eq_false, not_false_eq_true] <;> omega) | exact ic_F0 (by omega) (by simp only [icN, not_true_eq_false, not_false_eq_true] <;> omega)) ?_
  refine R_aload_n rfl rfl ?_
  refine R_iconst (y := nI 5) rfl (by decide) ?_
  refine R_virt rfl rfl rfl rfl rfl rfl rfl (Nat.le_of_ble_eq_true rfl) (fun _ q => by cases q) (r_ends) ?_
  try refine R_top (y := nI _) (by assumption) ?_
  exact R_iret rfl rfl (by first | trivial | exact Or.inl rfl | exact Or.inr rfl | assumption) ⟨rfl, rfl⟩
theorem r_short5 {d : Nat} {M : Mem} {a w p f q b s : Nat} (ha : M 10 0 = nI a) (hw : M 5 0 = nI w) (haw : a < w) (hw2 : w ≤ 2000) (hB : M 4 a = nI b) (hb2 : b ≤ 15) (hp : M 14 0 = nI p) (hp1 : p ≤ 1000) (hf : M 22 0 = nI f) (hf0 : 0 < f) (hf1 : f ≤ 200) (hq : M 15 (f - 1) = nI q) (hqp : q ≤ p) (ho : M 2 a = nI 5) (hsh : p - q < wnt 5 b) : CalR (d + 2) j_X9_oneStep [.ref 0] M (some (.int (nI 5))) (up2 M 9 0 (nI 5)) := by
  have hsh : p - q < 2 := hsh
  have hwn : nI (wnt 5 b) = nI (2) := rfl
  refine CalR_of (md := md_X9_oneStep) (d := d + 1) rfl (Nat.le_of_ble_eq_true rfl) ?_
  show WR (CalR (d + 1)) t_X9_oneStep 9 (some .int) _ 0 [(0, .ref 0)] [] _
  refine R_aload_n rfl rfl ?_
  refine R_getI rfl rfl (Or.inl rfl) ?_
  try refine R_top (y := nI _) (by assumption) ?_
  refine R_aload_n rfl rfl ?_
  refine R_getI rfl rfl (Or.inl rfl) ?_
  try refine R_top (y := nI _) (by assumption) ?_
  refine R_icF rfl (by first | assumption | exact icF (by decide) | exact ic_F (by omega) (by omega) (by simp only [icN, not_true_eq_false, not_false_eq_true] <;> omega) | exact ic_F0 (by omega) (by simp only [icN, not_true_eq_false, not_false_eq_true] <;> omega)) ?_
  refine R_aload_n rfl rfl ?_
  refine R_getA rfl rfl (Or.inl rfl) ?_
  refine R_aload_n rfl rfl ?_
  refine R_getI rfl rfl (Or.inl rfl) ?_
  try refine R_top (y := nI _) (by assumption) ?_
  refine R_iald rfl rfl rfl (show _ < 2000 from by omega) ?_
  try refine R_top (y := nI _) (by assumption) ?_
  refine R_ifT (pc' := 39) rfl rfl (by first | assumption | exact icT (by decide) | exact ic_T (by omega) (by omega) (by simp only [icN, not_true_eq_false, not_false_eq_true] <;> omega) | exact ic_T0 (by omega) (by simp only [icN, not_true_eq_false, not_false_eq_true] <;> omega)) ?_
  refine R_aload_n rfl rfl ?_
  refine R_getA rfl rfl (Or.inl rfl) ?_
  refine R_aload_n rfl rfl ?_
  refine R_getI rfl rfl (Or.inl rfl) ?_
  try refine R_top (y := nI _) (by assumption) ?_
  refine R_iald rfl rfl rfl (show _ < 2000 from by omega) ?_
  try refine R_top (y := nI _) (by assumption) ?_
  refine R_istore_n (lv' := [(1, _), (0, _)]) rfl rfl ?_
  refine R_aload_n rfl rfl ?_
  refine R_getA rfl rfl (Or.inl rfl) ?_
  refine R_aload_n rfl rfl ?_
  refine R_getI rfl rfl (Or.inl rfl) ?_
  try refine R_top (y := nI _) (by assumption) ?_
  refine R_iald rfl rfl rfl (show _ < 2000 from by omega) ?_
  try refine R_top (y := nI _) (by assumption) ?_
  refine R_istore_n (lv' := [(2, _), (1, _), (0, _)]) rfl rfl ?_
  refine R_aload_n rfl rfl ?_
  refine R_getI rfl rfl (Or.inl rfl) ?_
  try refine R_top (y := nI _) (by assumption) ?_
  refine R_aload_n rfl rfl ?_
  refine R_getA rfl rfl (Or.inl rfl) ?_
  refine R_aload_n rfl rfl ?_
  refine R_getI rfl rfl (Or.inl rfl) ?_
  try refine R_top (y := nI _) (by assumption) ?_
  refine R_iconst (y := nI 1) rfl (by decide) ?_
  first | refine R_isubN rfl (by omega) ?_ | refine R_isub rfl ?_
  refine R_iald rfl rfl rfl (show _ < 200 from by omega) ?_
  try refine R_top (y := nI _) (by assumption) ?_
  first | refine R_isubN rfl (by omega) ?_ | refine R_isub rfl ?_
  refine R_iload_n rfl rfl ?_
  refine R_aload_n rfl rfl ?_
  refine R_getA rfl rfl (Or.inl rfl) ?_
  refine R_aload_n rfl rfl ?_
  refine R_getI rfl rfl (Or.inl rfl) ?_
  try refine R_top (y := nI _) (by assumption) ?_
  refine R_iald rfl rfl rfl (show _ < 2000 from by omega) ?_
  try refine R_top (y := nI _) (by assumption) ?_
  refine R_stat rfl rfl rfl (Nat.le_of_ble_eq_true rfl) rfl rfl (Nat.le_of_ble_eq_true rfl) (fun _ q => by cases q) (r_wants5) ?_
  try refine R_top (y := nI _) (by assumption) ?_
  refine R_icF rfl (by first | assumption | exact icF (by decide) | exact ic_F (by omega) (by omega) (by simp only [icN, not_true_eq_false, not_false_eq_true] <;> omega) | exact ic_F0 (by omega) (by simp only [icN, not_true_eq_false, not_false_eq_true] <;> omega)) ?_
  refine R_aload_n rfl rfl ?_
  refine R_iconst (y := nI 5) rfl (by decide) ?_
  refine R_virt rfl rfl rfl rfl rfl rfl rfl (Nat.le_of_ble_eq_true rfl) (fun _ q => by cases q) (r_ends) ?_
  try refine R_top (y := nI _) (by assumption) ?_
  exact R_iret rfl rfl (by first | trivial | exact Or.inl rfl | exact Or.inr rfl | assumption) ⟨rfl, rfl⟩
theorem r_short6 {d : Nat} {M : Mem} {a w p f q b s : Nat} (ha : M 10 0 = nI a) (hw : M 5 0 = nI w) (haw : a < w) (hw2 : w ≤ 2000) (hB : M 4 a = nI b) (hb2 : b ≤ 15) (hp : M 14 0 = nI p) (hp1 : p ≤ 1000) (hf : M 22 0 = nI f) (hf0 : 0 < f) (hf1 : f ≤ 200) (hq : M 15 (f - 1) = nI q) (hqp : q ≤ p) (ho : M 2 a = nI 6) (hsh : p - q < wnt 6 b) : CalR (d + 2) j_X9_oneStep [.ref 0] M (some (.int (nI 5))) (up2 M 9 0 (nI 5)) := by
  have hsh : p - q < 2 := hsh
  have hwn : nI (wnt 6 b) = nI (2) := rfl
  refine CalR_of (md := md_X9_oneStep) (d := d + 1) rfl (Nat.le_of_ble_eq_true rfl) ?_
  show WR (CalR (d + 1)) t_X9_oneStep 9 (some .int) _ 0 [(0, .ref 0)] [] _
  refine R_aload_n rfl rfl ?_
  refine R_getI rfl rfl (Or.inl rfl) ?_
  try refine R_top (y := nI _) (by assumption) ?_
  refine R_aload_n rfl rfl ?_
  refine R_getI rfl rfl (Or.inl rfl) ?_
  try refine R_top (y := nI _) (by assumption) ?_
  refine R_icF rfl (by first | assumption | exact icF (by decide) | exact ic_F (by omega) (by omega) (by simp only [icN, not_true_eq_false, not_false_eq_true] <;> omega) | exact ic_F0 (by omega) (by simp only [icN, not_true_eq_false, not_false_eq_true] <;> omega)) ?_
  refine R_aload_n rfl rfl ?_
  refine R_getA rfl rfl (Or.inl rfl) ?_
  refine R_aload_n rfl rfl ?_
  refine R_getI rfl rfl (Or.inl rfl) ?_
  try refine R_top (y := nI _) (by assumption) ?_
  refine R_iald rfl rfl rfl (show _ < 2000 from by omega) ?_
  try refine R_top (y := nI _) (by assumption) ?_
  refine R_ifT (pc' := 39) rfl rfl (by first | assumption | exact icT (by decide) | exact ic_T (by omega) (by omega) (by simp only [icN, not_true_eq_false, not_false_eq_true] <;> omega) | exact ic_T0 (by omega) (by simp only [icN, not_true_eq_false, not_false_eq_true] <;> omega)) ?_
  refine R_aload_n rfl rfl ?_
  refine R_getA rfl rfl (Or.inl rfl) ?_
  refine R_aload_n rfl rfl ?_
  refine R_getI rfl rfl (Or.inl rfl) ?_
  try refine R_top (y := nI _) (by assumption) ?_
  refine R_iald rfl rfl rfl (show _ < 2000 from by omega) ?_
  try refine R_top (y := nI _) (by assumption) ?_
  refine R_istore_n (lv' := [(1, _), (0, _)]) rfl rfl ?_
  refine R_aload_n rfl rfl ?_
  refine R_getA rfl rfl (Or.inl rfl) ?_
  refine R_aload_n rfl rfl ?_
  refine R_getI rfl rfl (Or.inl rfl) ?_
  try refine R_top (y := nI _) (by assumption) ?_
  refine R_iald rfl rfl rfl (show _ < 2000 from by omega) ?_
  try refine R_top (y := nI _) (by assumption) ?_
  refine R_istore_n (lv' := [(2, _), (1, _), (0, _)]) rfl rfl ?_
  refine R_aload_n rfl rfl ?_
  refine R_getI rfl rfl (Or.inl rfl) ?_
  try refine R_top (y := nI _) (by assumption) ?_
  refine R_aload_n rfl rfl ?_
  refine R_getA rfl rfl (Or.inl rfl) ?_
  refine R_aload_n rfl rfl ?_
  refine R_getI rfl rfl (Or.inl rfl) ?_
  try refine R_top (y := nI _) (by assumption) ?_
  refine R_iconst (y := nI 1) rfl (by decide) ?_
  first | refine R_isubN rfl (by omega) ?_ | refine R_isub rfl ?_
  refine R_iald rfl rfl rfl (show _ < 200 from by omega) ?_
  try refine R_top (y := nI _) (by assumption) ?_
  first | refine R_isubN rfl (by omega) ?_ | refine R_isub rfl ?_
  refine R_iload_n rfl rfl ?_
  refine R_aload_n rfl rfl ?_
  refine R_getA rfl rfl (Or.inl rfl) ?_
  refine R_aload_n rfl rfl ?_
  refine R_getI rfl rfl (Or.inl rfl) ?_
  try refine R_top (y := nI _) (by assumption) ?_
  refine R_iald rfl rfl rfl (show _ < 2000 from by omega) ?_
  try refine R_top (y := nI _) (by assumption) ?_
  refine R_stat rfl rfl rfl (Nat.le_of_ble_eq_true rfl) rfl rfl (Nat.le_of_ble_eq_true rfl) (fun _ q => by cases q) (r_wants6) ?_
  try refine R_top (y := nI _) (by assumption) ?_
  refine R_icF rfl (by first | assumption | exact icF (by decide) | exact ic_F (by omega) (by omega) (by simp only [icN, not_true_eq_false, not_false_eq_true] <;> omega) | exact ic_F0 (by omega) (by simp only [icN, not_true_eq_false, not_false_eq_true] <;> omega)) ?_
  refine R_aload_n rfl rfl ?_
  refine R_iconst (y := nI 5) rfl (by decide) ?_
  refine R_virt rfl rfl rfl rfl rfl rfl rfl (Nat.le_of_ble_eq_true rfl) (fun _ q => by cases q) (r_ends) ?_
  try refine R_top (y := nI _) (by assumption) ?_
  exact R_iret rfl rfl (by first | trivial | exact Or.inl rfl | exact Or.inr rfl | assumption) ⟨rfl, rfl⟩
theorem r_short7 {d : Nat} {M : Mem} {a w p f q b s : Nat} (ha : M 10 0 = nI a) (hw : M 5 0 = nI w) (haw : a < w) (hw2 : w ≤ 2000) (hB : M 4 a = nI b) (hb2 : b ≤ 15) (hp : M 14 0 = nI p) (hp1 : p ≤ 1000) (hf : M 22 0 = nI f) (hf0 : 0 < f) (hf1 : f ≤ 200) (hq : M 15 (f - 1) = nI q) (hqp : q ≤ p) (ho : M 2 a = nI 7) (hsh : p - q < wnt 7 b) : CalR (d + 2) j_X9_oneStep [.ref 0] M (some (.int (nI 5))) (up2 M 9 0 (nI 5)) := by
  have hsh : p - q < 2 := hsh
  have hwn : nI (wnt 7 b) = nI (2) := rfl
  refine CalR_of (md := md_X9_oneStep) (d := d + 1) rfl (Nat.le_of_ble_eq_true rfl) ?_
  show WR (CalR (d + 1)) t_X9_oneStep 9 (some .int) _ 0 [(0, .ref 0)] [] _
  refine R_aload_n rfl rfl ?_
  refine R_getI rfl rfl (Or.inl rfl) ?_
  try refine R_top (y := nI _) (by assumption) ?_
  refine R_aload_n rfl rfl ?_
  refine R_getI rfl rfl (Or.inl rfl) ?_
  try refine R_top (y := nI _) (by assumption) ?_
  refine R_icF rfl (by first | assumption | exact icF (by decide) | exact ic_F (by omega) (by omega) (by simp only [icN, not_true_eq_false, not_false_eq_true] <;> omega) | exact ic_F0 (by omega) (by simp only [icN, not_true_eq_false, not_false_eq_true] <;> omega)) ?_
  refine R_aload_n rfl rfl ?_
  refine R_getA rfl rfl (Or.inl rfl) ?_
  refine R_aload_n rfl rfl ?_
  refine R_getI rfl rfl (Or.inl rfl) ?_
  try refine R_top (y := nI _) (by assumption) ?_
  refine R_iald rfl rfl rfl (show _ < 2000 from by omega) ?_
  try refine R_top (y := nI _) (by assumption) ?_
  refine R_ifT (pc' := 39) rfl rfl (by first | assumption | exact icT (by decide) | exact ic_T (by omega) (by omega) (by simp only [icN, not_true_eq_false, not_false_eq_true] <;> omega) | exact ic_T0 (by omega) (by simp only [icN, not_true_eq_false, not_false_eq_true] <;> omega)) ?_
  refine R_aload_n rfl rfl ?_
  refine R_getA rfl rfl (Or.inl rfl) ?_
  refine R_aload_n rfl rfl ?_
  refine R_getI rfl rfl (Or.inl rfl) ?_
  try refine R_top (y := nI _) (by assumption) ?_
  refine R_iald rfl rfl rfl (show _ < 2000 from by omega) ?_
  try refine R_top (y := nI _) (by assumption) ?_
  refine R_istore_n (lv' := [(1, _), (0, _)]) rfl rfl ?_
  refine R_aload_n rfl rfl ?_
  refine R_getA rfl rfl (Or.inl rfl) ?_
  refine R_aload_n rfl rfl ?_
  refine R_getI rfl rfl (Or.inl rfl) ?_
  try refine R_top (y := nI _) (by assumption) ?_
  refine R_iald rfl rfl rfl (show _ < 2000 from by omega) ?_
  try refine R_top (y := nI _) (by assumption) ?_
  refine R_istore_n (lv' := [(2, _), (1, _), (0, _)]) rfl rfl ?_
  refine R_aload_n rfl rfl ?_
  refine R_getI rfl rfl (Or.inl rfl) ?_
  try refine R_top (y := nI _) (by assumption) ?_
  refine R_aload_n rfl rfl ?_
  refine R_getA rfl rfl (Or.inl rfl) ?_
  refine R_aload_n rfl rfl ?_
  refine R_getI rfl rfl (Or.inl rfl) ?_
  try refine R_top (y := nI _) (by assumption) ?_
  refine R_iconst (y := nI 1) rfl (by decide) ?_
  first | refine R_isubN rfl (by omega) ?_ | refine R_isub rfl ?_
  refine R_iald rfl rfl rfl (show _ < 200 from by omega) ?_
  try refine R_top (y := nI _) (by assumption) ?_
  first | refine R_isubN rfl (by omega) ?_ | refine R_isub rfl ?_
  refine R_iload_n rfl rfl ?_
  refine R_aload_n rfl rfl ?_
  refine R_getA rfl rfl (Or.inl rfl) ?_
  refine R_aload_n rfl rfl ?_
  refine R_getI rfl rfl (Or.inl rfl) ?_
  try refine R_top (y := nI _) (by assumption) ?_
  refine R_iald rfl rfl rfl (show _ < 2000 from by omega) ?_
  try refine R_top (y := nI _) (by assumption) ?_
  refine R_stat rfl rfl rfl (Nat.le_of_ble_eq_true rfl) rfl rfl (Nat.le_of_ble_eq_true rfl) (fun _ q => by cases q) (r_wants7) ?_
  try refine R_top (y := nI _) (by assumption) ?_
  refine R_icF rfl (by first | assumption | exact icF (by decide) | exact ic_F (by omega) (by omega) (by simp only [icN, not_true_eq_false, not_false_eq_true] <;> omega) | exact ic_F0 (by omega) (by simp only [icN, not_true_eq_false, not_false_eq_true] <;> omega)) ?_
  refine R_aload_n rfl rfl ?_
  refine R_iconst (y := nI 5) rfl (by decide) ?_
  refine R_virt rfl rfl rfl rfl rfl rfl rfl (Nat.le_of_ble_eq_true rfl) (fun _ q => by cases q) (r_ends) ?_
  try refine R_top (y := nI _) (by assumption) ?_
  exact R_iret rfl rfl (by first | trivial | exact Or.inl rfl | exact Or.inr rfl | assumption) ⟨rfl, rfl⟩
theorem r_short8 {d : Nat} {M : Mem} {a w p f q b s : Nat} (ha : M 10 0 = nI a) (hw : M 5 0 = nI w) (haw : a < w) (hw2 : w ≤ 2000) (hB : M 4 a = nI b) (hb2 : b ≤ 15) (hp : M 14 0 = nI p) (hp1 : p ≤ 1000) (hf : M 22 0 = nI f) (hf0 : 0 < f) (hf1 : f ≤ 200) (hq : M 15 (f - 1) = nI q) (hqp : q ≤ p) (ho : M 2 a = nI 8) (hsh : p - q < wnt 8 b) : CalR (d + 2) j_X9_oneStep [.ref 0] M (some (.int (nI 5))) (up2 M 9 0 (nI 5)) := by
  have hsh : p - q < 2 := hsh
  have hwn : nI (wnt 8 b) = nI (2) := rfl
  refine CalR_of (md := md_X9_oneStep) (d := d + 1) rfl (Nat.le_of_ble_eq_true rfl) ?_
  show WR (CalR (d + 1)) t_X9_oneStep 9 (some .int) _ 0 [(0, .ref 0)] [] _
  refine R_aload_n rfl rfl ?_
  refine R_getI rfl rfl (Or.inl rfl) ?_
  try refine R_top (y := nI _) (by assumption) ?_
  refine R_aload_n rfl rfl ?_
  refine R_getI rfl rfl (Or.inl rfl) ?_
  try refine R_top (y := nI _) (by assumption) ?_
  refine R_icF rfl (by first | assumption | exact icF (by decide) | exact ic_F (by omega) (by omega) (by simp only [icN, not_true_eq_false, not_false_eq_true] <;> omega) | exact ic_F0 (by omega) (by simp only [icN, not_true_eq_false, not_false_eq_true] <;> omega)) ?_
  refine R_aload_n rfl rfl ?_
  refine R_getA rfl rfl (Or.inl rfl) ?_
  refine R_aload_n rfl rfl ?_
  refine R_getI rfl rfl (Or.inl rfl) ?_
  try refine R_top (y := nI _) (by assumption) ?_
  refine R_iald rfl rfl rfl (show _ < 2000 from by omega) ?_
  try refine R_top (y := nI _) (by assumption) ?_
  refine R_ifT (pc' := 39) rfl rfl (by first | assumption | exact icT (by decide) | exact ic_T (by omega) (by omega) (by simp only [icN, not_true_eq_false, not_false_eq_true] <;> omega) | exact ic_T0 (by omega) (by simp only [icN, not_true_eq_false, not_false_eq_true] <;> omega)) ?_
  refine R_aload_n rfl rfl ?_
  refine R_getA rfl rfl (Or.inl rfl) ?_
  refine R_aload_n rfl rfl ?_
  refine R_getI rfl rfl (Or.inl rfl) ?_
  try refine R_top (y := nI _) (by assumption) ?_
  refine R_iald rfl rfl rfl (show _ < 2000 from by omega) ?_
  try refine R_top (y := nI _) (by assumption) ?_
  refine R_istore_n (lv' := [(1, _), (0, _)]) rfl rfl ?_
  refine R_aload_n rfl rfl ?_
  refine R_getA rfl rfl (Or.inl rfl) ?_
  refine R_aload_n rfl rfl ?_
  refine R_getI rfl rfl (Or.inl rfl) ?_
  try refine R_top (y := nI _) (by assumption) ?_
  refine R_iald rfl rfl rfl (show _ < 2000 from by omega) ?_
  try refine R_top (y := nI _) (by assumption) ?_
  refine R_istore_n (lv' := [(2, _), (1, _), (0, _)]) rfl rfl ?_
  refine R_aload_n rfl rfl ?_
  refine R_getI rfl rfl (Or.inl rfl) ?_
  try refine R_top (y := nI _) (by assumption) ?_
  refine R_aload_n rfl rfl ?_
  refine R_getA rfl rfl (Or.inl rfl) ?_
  refine R_aload_n rfl rfl ?_
  refine R_getI rfl rfl (Or.inl rfl) ?_
  try refine R_top (y := nI _) (by assumption) ?_
  refine R_iconst (y := nI 1) rfl (by decide) ?_
  first | refine R_isubN rfl (by omega) ?_ | refine R_isub rfl ?_
  refine R_iald rfl rfl rfl (show _ < 200 from by omega) ?_
  try refine R_top (y := nI _) (by assumption) ?_
  first | refine R_isubN rfl (by omega) ?_ | refine R_isub rfl ?_
  refine R_iload_n rfl rfl ?_
  refine R_aload_n rfl rfl ?_
  refine R_getA rfl rfl (Or.inl rfl) ?_
  refine R_aload_n rfl rfl ?_
  refine R_getI rfl rfl (Or.inl rfl) ?_
  try refine R_top (y := nI _) (by assumption) ?_
  refine R_iald rfl rfl rfl (show _ < 2000 from by omega) ?_
  try refine R_top (y := nI _) (by assumption) ?_
  refine R_stat rfl rfl rfl (Nat.le_of_ble_eq_true rfl) rfl rfl (Nat.le_of_ble_eq_true rfl) (fun _ q => by cases q) (r_wants8) ?_
  try refine R_top (y := nI _) (by assumption) ?_
  refine R_icF rfl (by first | assumption | exact icF (by decide) | exact ic_F (by omega) (by omega) (by simp only [icN, not_true_eq_false, not_false_eq_true] <;> omega) | exact ic_F0 (by omega) (by simp only [icN, not_true_eq_false, not_false_eq_true] <;> omega)) ?_
  refine R_aload_n rfl rfl ?_
  refine R_iconst (y := nI 5) rfl (by decide) ?_
  refine R_virt rfl rfl rfl rfl rfl rfl rfl (Nat.le_of_ble_eq_true rfl) (fun _ q => by cases q) (r_ends) ?_
  try refine R_top (y := nI _) (by assumption) ?_
  exact R_iret rfl rfl (by first | trivial | exact Or.inl rfl | exact Or.inr rfl | assumption) ⟨rfl, rfl⟩
theorem r_short9 {d : Nat} {M : Mem} {a w p f q b s : Nat} (ha : M 10 0 = nI a) (hw : M 5 0 = nI w) (haw : a < w) (hw2 : w ≤ 2000) (hB : M 4 a = nI b) (hb2 : b ≤ 15) (hp : M 14 0 = nI p) (hp1 : p ≤ 1000) (hf : M 22 0 = nI f) (hf0 : 0 < f) (hf1 : f ≤ 200) (hq : M 15 (f - 1) = nI q) (hqp : q ≤ p) (ho : M 2 a = nI 9) (hsh : p - q < wnt 9 b) : CalR (d + 2) j_X9_oneStep [.ref 0] M (some (.int (nI 5))) (up2 M 9 0 (nI 5)) := by
  have hsh : p - q < 2 := hsh
  have hwn : nI (wnt 9 b) = nI (2) := rfl
  refine CalR_of (md := md_X9_oneStep) (d := d + 1) rfl (Nat.le_of_ble_eq_true rfl) ?_
  show WR (CalR (d + 1)) t_X9_oneStep 9 (some .int) _ 0 [(0, .ref 0)] [] _
  refine R_aload_n rfl rfl ?_
  refine R_getI rfl rfl (Or.inl rfl) ?_
  try refine R_top (y := nI _) (by assumption) ?_
  refine R_aload_n rfl rfl ?_
  refine R_getI rfl rfl (Or.inl rfl) ?_
  try refine R_top (y := nI _) (by assumption) ?_
  refine R_icF rfl (by first | assumption | exact icF (by decide) | exact ic_F (by omega) (by omega) (by simp only [icN, not_true_eq_false, not_false_eq_true] <;> omega) | exact ic_F0 (by omega) (by simp only [icN, not_true_eq_false, not_false_eq_true] <;> omega)) ?_
  refine R_aload_n rfl rfl ?_
  refine R_getA rfl rfl (Or.inl rfl) ?_
  refine R_aload_n rfl rfl ?_
  refine R_getI rfl rfl (Or.inl rfl) ?_
  try refine R_top (y := nI _) (by assumption) ?_
  refine R_iald rfl rfl rfl (show _ < 2000 from by omega) ?_
  try refine R_top (y := nI _) (by assumption) ?_
  refine R_ifT (pc' := 39) rfl rfl (by first | assumption | exact icT (by decide) | exact ic_T (by omega) (by omega) (by simp only [icN, not_true_eq_false, not_false_eq_true] <;> omega) | exact ic_T0 (by omega) (by simp only [icN, not_true_eq_false, not_false_eq_true] <;> omega)) ?_
  refine R_aload_n rfl rfl ?_
  refine R_getA rfl rfl (Or.inl rfl) ?_
  refine R_aload_n rfl rfl ?_
  refine R_getI rfl rfl (Or.inl rfl) ?_
  try refine R_top (y := nI _) (by assumption) ?_
  refine R_iald rfl rfl rfl (show _ < 2000 from by omega) ?_
  try refine R_top (y := nI _) (by assumption) ?_
  refine R_istore_n (lv' := [(1, _), (0, _)]) rfl rfl ?_
  refine R_aload_n rfl rfl ?_
  refine R_getA rfl rfl (Or.inl rfl) ?_
  refine R_aload_n rfl rfl ?_
  refine R_getI rfl rfl (Or.inl rfl) ?_
  try refine R_top (y := nI _) (by assumption) ?_
  refine R_iald rfl rfl rfl (show _ < 2000 from by omega) ?_
  try refine R_top (y := nI _) (by assumption) ?_
  refine R_istore_n (lv' := [(2, _), (1, _), (0, _)]) rfl rfl ?_
  refine R_aload_n rfl rfl ?_
  refine R_getI rfl rfl (Or.inl rfl) ?_
  try refine R_top (y := nI _) (by assumption) ?_
  refine R_aload_n rfl rfl ?_
  refine R_getA rfl rfl (Or.inl rfl) ?_
  refine R_aload_n rfl rfl ?_
  refine R_getI rfl rfl (Or.inl rfl) ?_
  try refine R_top (y := nI _) (by assumption) ?_
  refine R_iconst (y := nI 1) rfl (by decide) ?_
  first | refine R_isubN rfl (by omega) ?_ | refine R_isub rfl ?_
  refine R_iald rfl rfl rfl (show _ < 200 from by omega) ?_
  try refine R_top (y := nI _) (by assumption) ?_
  first | refine R_isubN rfl (by omega) ?_ | refine R_isub rfl ?_
  refine R_iload_n rfl rfl ?_
  refine R_aload_n rfl rfl ?_
  refine R_getA rfl rfl (Or.inl rfl) ?_
  refine R_aload_n rfl rfl ?_
  refine R_getI rfl rfl (Or.inl rfl) ?_
  try refine R_top (y := nI _) (by assumption) ?_
  refine R_iald rfl rfl rfl (show _ < 2000 from by omega) ?_
  try refine R_top (y := nI _) (by assumption) ?_
  refine R_stat rfl rfl rfl (Nat.le_of_ble_eq_true rfl) rfl rfl (Nat.le_of_ble_eq_true rfl) (fun _ q => by cases q) (r_wants9) ?_
  try refine R_top (y := nI _) (by assumption) ?_
  refine R_icF rfl (by first | assumption | exact icF (by decide) | exact ic_F (by omega) (by omega) (by simp only [icN, not_true_eq_false, not_false_eq_true] <;> omega) | exact ic_F0 (by omega) (by simp only [icN, not_true_eq_false, not_false_eq_true] <;> omega)) ?_
  refine R_aload_n rfl rfl ?_
  refine R_iconst (y := nI 5) rfl (by decide) ?_
  refine R_virt rfl rfl rfl rfl rfl rfl rfl (Nat.le_of_ble_eq_true rfl) (fun _ q => by cases q) (r_ends) ?_
  try refine R_top (y := nI _) (by assumption) ?_
  exact R_iret rfl rfl (by first | trivial | exact Or.inl rfl | exact Or.inr rfl | assumption) ⟨rfl, rfl⟩
theorem r_short10 {d : Nat} {M : Mem} {a w p f q b s : Nat} (ha : M 10 0 = nI a) (hw : M 5 0 = nI w) (haw : a < w) (hw2 : w ≤ 2000) (hB : M 4 a = nI b) (hb2 : b ≤ 15) (hp : M 14 0 = nI p) (hp1 : p ≤ 1000) (hf : M 22 0 = nI f) (hf0 : 0 < f) (hf1 : f ≤ 200) (hq : M 15 (f - 1) = nI q) (hqp : q ≤ p) (ho : M 2 a = nI 10) (hsh : p - q < wnt 10 b) : CalR (d + 2) j_X9_oneStep [.ref 0] M (some (.int (nI 5))) (up2 M 9 0 (nI 5)) := by
  have hsh : p - q < 2 := hsh
  have hwn : nI (wnt 10 b) = nI (2) := rfl
  refine CalR_of (md := md_X9_oneStep) (d := d + 1) rfl (Nat.le_of_ble_eq_true rfl) ?_
  show WR (CalR (d + 1)) t_X9_oneStep 9 (some .int) _ 0 [(0, .ref 0)] [] _
  refine R_aload_n rfl rfl ?_
  refine R_getI rfl rfl (Or.inl rfl) ?_
  try refine R_top (y := nI _) (by assumption) ?_
  refine R_aload_n rfl rfl ?_
  refine R_getI rfl rfl (Or.inl rfl) ?_
  try refine R_top (y := nI _) (by assumption) ?_
  refine R_icF rfl (by first | assumption | exact icF (by decide) | exact ic_F (by omega) (by omega) (by simp only [icN, not_true_eq_false, not_false_eq_true] <;> omega) | exact ic_F0 (by omega) (by simp only [icN, not_true_eq_false, not_false_eq_true] <;> omega)) ?_
  refine R_aload_n rfl rfl ?_
  refine R_getA rfl rfl (Or.inl rfl) ?_
  refine R_aload_n rfl rfl ?_
  refine R_getI rfl rfl (Or.inl rfl) ?_
  try refine R_top (y := nI _) (by assumption) ?_
  refine R_iald rfl rfl rfl (show _ < 2000 from by omega) ?_
  try refine R_top (y := nI _) (by assumption) ?_
  refine R_ifT (pc' := 39) rfl rfl (by first | assumption | exact icT (by decide) | exact ic_T (by omega) (by omega) (by simp only [icN, not_true_eq_false, not_false_eq_true] <;> omega) | exact ic_T0 (by omega) (by simp only [icN, not_true_eq_false, not_false_eq_true] <;> omega)) ?_
  refine R_aload_n rfl rfl ?_
  refine R_getA rfl rfl (Or.inl rfl) ?_
  refine R_aload_n rfl rfl ?_
  refine R_getI rfl rfl (Or.inl rfl) ?_
  try refine R_top (y := nI _) (by assumption) ?_
  refine R_iald rfl rfl rfl (show _ < 2000 from by omega) ?_
  try refine R_top (y := nI _) (by assumption) ?_
  refine R_istore_n (lv' := [(1, _), (0, _)]) rfl rfl ?_
  refine R_aload_n rfl rfl ?_
  refine R_getA rfl rfl (Or.inl rfl) ?_
  refine R_aload_n rfl rfl ?_
  refine R_getI rfl rfl (Or.inl rfl) ?_
  try refine R_top (y := nI _) (by assumption) ?_
  refine R_iald rfl rfl rfl (show _ < 2000 from by omega) ?_
  try refine R_top (y := nI _) (by assumption) ?_
  refine R_istore_n (lv' := [(2, _), (1, _), (0, _)]) rfl rfl ?_
  refine R_aload_n rfl rfl ?_
  refine R_getI rfl rfl (Or.inl rfl) ?_
  try refine R_top (y := nI _) (by assumption) ?_
  refine R_aload_n rfl rfl ?_
  refine R_getA rfl rfl (Or.inl rfl) ?_
  refine R_aload_n rfl rfl ?_
  refine R_getI rfl rfl (Or.inl rfl) ?_
  try refine R_top (y := nI _) (by assumption) ?_
  refine R_iconst (y := nI 1) rfl (by decide) ?_
  first | refine R_isubN rfl (by omega) ?_ | refine R_isub rfl ?_
  refine R_iald rfl rfl rfl (show _ < 200 from by omega) ?_
  try refine R_top (y := nI _) (by assumption) ?_
  first | refine R_isubN rfl (by omega) ?_ | refine R_isub rfl ?_
  refine R_iload_n rfl rfl ?_
  refine R_aload_n rfl rfl ?_
  refine R_getA rfl rfl (Or.inl rfl) ?_
  refine R_aload_n rfl rfl ?_
  refine R_getI rfl rfl (Or.inl rfl) ?_
  try refine R_top (y := nI _) (by assumption) ?_
  refine R_iald rfl rfl rfl (show _ < 2000 from by omega) ?_
  try refine R_top (y := nI _) (by assumption) ?_
  refine R_stat rfl rfl rfl (Nat.le_of_ble_eq_true rfl) rfl rfl (Nat.le_of_ble_eq_true rfl) (fun _ q => by cases q) (r_wants10) ?_
  try refine R_top (y := nI _) (by assumption) ?_
  refine R_icF rfl (by first | assumption | exact icF (by decide) | exact ic_F (by omega) (by omega) (by simp only [icN, not_true_eq_false, not_false_eq_true] <;> omega) | exact ic_F0 (by omega) (by simp only [icN, not_true_eq_false, not_false_eq_true] <;> omega)) ?_
  refine R_aload_n rfl rfl ?_
  refine R_iconst (y := nI 5) rfl (by decide) ?_
  refine R_virt rfl rfl rfl rfl rfl rfl rfl (Nat.le_of_ble_eq_true rfl) (fun _ q => by cases q) (r_ends) ?_
  try refine R_top (y := nI _) (by assumption) ?_
  exact R_iret rfl rfl (by first | trivial | exact Or.inl rfl | exact Or.inr rfl | assumption) ⟨rfl, rfl⟩
theorem r_short11 {d : Nat} {M : Mem} {a w p f q b s : Nat} (ha : M 10 0 = nI a) (hw : M 5 0 = nI w) (haw : a < w) (hw2 : w ≤ 2000) (hB : M 4 a = nI b) (hb2 : b ≤ 15) (hp : M 14 0 = nI p) (hp1 : p ≤ 1000) (hf : M 22 0 = nI f) (hf0 : 0 < f) (hf1 : f ≤ 200) (hq : M 15 (f - 1) = nI q) (hqp : q ≤ p) (ho : M 2 a = nI 11) (hsh : p - q < wnt 11 b) : CalR (d + 2) j_X9_oneStep [.ref 0] M (some (.int (nI 5))) (up2 M 9 0 (nI 5)) := by
  have hsh : p - q < 2 := hsh
  have hwn : nI (wnt 11 b) = nI (2) := rfl
  refine CalR_of (md := md_X9_oneStep) (d := d + 1) rfl (Nat.le_of_ble_eq_true rfl) ?_
  show WR (CalR (d + 1)) t_X9_oneStep 9 (some .int) _ 0 [(0, .ref 0)] [] _
  refine R_aload_n rfl rfl ?_
  refine R_getI rfl rfl (Or.inl rfl) ?_
  try refine R_top (y := nI _) (by assumption) ?_
  refine R_aload_n rfl rfl ?_
  refine R_getI rfl rfl (Or.inl rfl) ?_
  try refine R_top (y := nI _) (by assumption) ?_
  refine R_icF rfl (by first | assumption | exact icF (by decide) | exact ic_F (by omega) (by omega) (by simp only [icN, not_true_eq_false, not_false_eq_true] <;> omega) | exact ic_F0 (by omega) (by simp only [icN, not_true_eq_false, not_false_eq_true] <;> omega)) ?_
  refine R_aload_n rfl rfl ?_
  refine R_getA rfl rfl (Or.inl rfl) ?_
  refine R_aload_n rfl rfl ?_
  refine R_getI rfl rfl (Or.inl rfl) ?_
  try refine R_top (y := nI _) (by assumption) ?_
  refine R_iald rfl rfl rfl (show _ < 2000 from by omega) ?_
  try refine R_top (y := nI _) (by assumption) ?_
  refine R_ifT (pc' := 39) rfl rfl (by first | assumption | exact icT (by decide) | exact ic_T (by omega) (by omega) (by simp only [icN, not_true_eq_false, not_false_eq_true] <;> omega) | exact ic_T0 (by omega) (by simp only [icN, not_true_eq_false, not_false_eq_true] <;> omega)) ?_
  refine R_aload_n rfl rfl ?_
  refine R_getA rfl rfl (Or.inl rfl) ?_
  refine R_aload_n rfl rfl ?_
  refine R_getI rfl rfl (Or.inl rfl) ?_
  try refine R_top (y := nI _) (by assumption) ?_
  refine R_iald rfl rfl rfl (show _ < 2000 from by omega) ?_
  try refine R_top (y := nI _) (by assumption) ?_
  refine R_istore_n (lv' := [(1, _), (0, _)]) rfl rfl ?_
  refine R_aload_n rfl rfl ?_
  refine R_getA rfl rfl (Or.inl rfl) ?_
  refine R_aload_n rfl rfl ?_
  refine R_getI rfl rfl (Or.inl rfl) ?_
  try refine R_top (y := nI _) (by assumption) ?_
  refine R_iald rfl rfl rfl (show _ < 2000 from by omega) ?_
  try refine R_top (y := nI _) (by assumption) ?_
  refine R_istore_n (lv' := [(2, _), (1, _), (0, _)]) rfl rfl ?_
  refine R_aload_n rfl rfl ?_
  refine R_getI rfl rfl (Or.inl rfl) ?_
  try refine R_top (y := nI _) (by assumption) ?_
  refine R_aload_n rfl rfl ?_
  refine R_getA rfl rfl (Or.inl rfl) ?_
  refine R_aload_n rfl rfl ?_
  refine R_getI rfl rfl (Or.inl rfl) ?_
  try refine R_top (y := nI _) (by assumption) ?_
  refine R_iconst (y := nI 1) rfl (by decide) ?_
  first | refine R_isubN rfl (by omega) ?_ | refine R_isub rfl ?_
  refine R_iald rfl rfl rfl (show _ < 200 from by omega) ?_
  try refine R_top (y := nI _) (by assumption) ?_
  first | refine R_isubN rfl (by omega) ?_ | refine R_isub rfl ?_
  refine R_iload_n rfl rfl ?_
  refine R_aload_n rfl rfl ?_
  refine R_getA rfl rfl (Or.inl rfl) ?_
  refine R_aload_n rfl rfl ?_
  refine R_getI rfl rfl (Or.inl rfl) ?_
  try refine R_top (y := nI _) (by assumption) ?_
  refine R_iald rfl rfl rfl (show _ < 2000 from by omega) ?_
  try refine R_top (y := nI _) (by assumption) ?_
  refine R_stat rfl rfl rfl (Nat.le_of_ble_eq_true rfl) rfl rfl (Nat.le_of_ble_eq_true rfl) (fun _ q => by cases q) (r_wants11) ?_
  try refine R_top (y := nI _) (by assumption) ?_
  refine R_icF rfl (by first | assumption | exact icF (by decide) | exact ic_F (by omega) (by omega) (by simp only [icN, not_true_eq_false, not_false_eq_true] <;> omega) | exact ic_F0 (by omega) (by simp only [icN, not_true_eq_false, not_false_eq_true] <;> omega)) ?_
  refine R_aload_n rfl rfl ?_
  refine R_iconst (y := nI 5) rfl (by decide) ?_
  refine R_virt rfl rfl rfl rfl rfl rfl rfl (Nat.le_of_ble_eq_true rfl) (fun _ q => by cases q) (r_ends) ?_
  try refine R_top (y := nI _) (by assumption) ?_
  exact R_iret rfl rfl (by first | trivial | exact Or.inl rfl | exact Or.inr rfl | assumption) ⟨rfl, rfl⟩
theorem r_short12 {d : Nat} {M : Mem} {a w p f q b s : Nat} (ha : M 10 0 = nI a) (hw : M 5 0 = nI w) (haw : a < w) (hw2 : w ≤ 2000) (hB : M 4 a = nI b) (hb2 : b ≤ 15) (hp : M 14 0 = nI p) (hp1 : p ≤ 1000) (hf : M 22 0 = nI f) (hf0 : 0 < f) (hf1 : f ≤ 200) (hq : M 15 (f - 1) = nI q) (hqp : q ≤ p) (ho : M 2 a = nI 12) (hsh : p - q < wnt 12 b) : CalR (d + 2) j_X9_oneStep [.ref 0] M (some (.int (nI 5))) (up2 M 9 0 (nI 5)) := by
  have hsh : p - q < 2 := hsh
  have hwn : nI (wnt 12 b) = nI (2) := rfl
  refine CalR_of (md := md_X9_oneStep) (d := d + 1) rfl (Nat.le_of_ble_eq_true rfl) ?_
  show WR (CalR (d + 1)) t_X9_oneStep 9 (some .int) _ 0 [(0, .ref 0)] [] _
  refine R_aload_n rfl rfl ?_
  refine R_getI rfl rfl (Or.inl rfl) ?_
  try refine R_top (y := nI _) (by assumption) ?_
  refine R_aload_n rfl rfl ?_
  refine R_getI rfl rfl (Or.inl rfl) ?_
  try refine R_top (y := nI _) (by assumption) ?_
  refine R_icF rfl (by first | assumption | exact icF (by decide) | exact ic_F (by omega) (by omega) (by simp only [icN, not_true_eq_false, not_false_eq_true] <;> omega) | exact ic_F0 (by omega) (by simp only [icN, not_true_eq_false, not_false_eq_true] <;> omega)) ?_
  refine R_aload_n rfl rfl ?_
  refine R_getA rfl rfl (Or.inl rfl) ?_
  refine R_aload_n rfl rfl ?_
  refine R_getI rfl rfl (Or.inl rfl) ?_
  try refine R_top (y := nI _) (by assumption) ?_
  refine R_iald rfl rfl rfl (show _ < 2000 from by omega) ?_
  try refine R_top (y := nI _) (by assumption) ?_
  refine R_ifT (pc' := 39) rfl rfl (by first | assumption | exact icT (by decide) | exact ic_T (by omega) (by omega) (by simp only [icN, not_true_eq_false, not_false_eq_true] <;> omega) | exact ic_T0 (by omega) (by simp only [icN, not_true_eq_false, not_false_eq_true] <;> omega)) ?_
  refine R_aload_n rfl rfl ?_
  refine R_getA rfl rfl (Or.inl rfl) ?_
  refine R_aload_n rfl rfl ?_
  refine R_getI rfl rfl (Or.inl rfl) ?_
  try refine R_top (y := nI _) (by assumption) ?_
  refine R_iald rfl rfl rfl (show _ < 2000 from by omega) ?_
  try refine R_top (y := nI _) (by assumption) ?_
  refine R_istore_n (lv' := [(1, _), (0, _)]) rfl rfl ?_
  refine R_aload_n rfl rfl ?_
  refine R_getA rfl rfl (Or.inl rfl) ?_
  refine R_aload_n rfl rfl ?_
  refine R_getI rfl rfl (Or.inl rfl) ?_
  try refine R_top (y := nI _) (by assumption) ?_
  refine R_iald rfl rfl rfl (show _ < 2000 from by omega) ?_
  try refine R_top (y := nI _) (by assumption) ?_
  refine R_istore_n (lv' := [(2, _), (1, _), (0, _)]) rfl rfl ?_
  refine R_aload_n rfl rfl ?_
  refine R_getI rfl rfl (Or.inl rfl) ?_
  try refine R_top (y := nI _) (by assumption) ?_
  refine R_aload_n rfl rfl ?_
  refine R_getA rfl rfl (Or.inl rfl) ?_
  refine R_aload_n rfl rfl ?_
  refine R_getI rfl rfl (Or.inl rfl) ?_
  try refine R_top (y := nI _) (by assumption) ?_
  refine R_iconst (y := nI 1) rfl (by decide) ?_
  first | refine R_isubN rfl (by omega) ?_ | refine R_isub rfl ?_
  refine R_iald rfl rfl rfl (show _ < 200 from by omega) ?_
  try refine R_top (y := nI _) (by assumption) ?_
  first | refine R_isubN rfl (by omega) ?_ | refine R_isub rfl ?_
  refine R_iload_n rfl rfl ?_
  refine R_aload_n rfl rfl ?_
  refine R_getA rfl rfl (Or.inl rfl) ?_
  refine R_aload_n rfl rfl ?_
  refine R_getI rfl rfl (Or.inl rfl) ?_
  try refine R_top (y := nI _) (by assumption) ?_
  refine R_iald rfl rfl rfl (show _ < 2000 from by omega) ?_
  try refine R_top (y := nI _) (by assumption) ?_
  refine R_stat rfl rfl rfl (Nat.le_of_ble_eq_true rfl) rfl rfl (Nat.le_of_ble_eq_true rfl) (fun _ q => by cases q) (r_wants12) ?_
  try refine R_top (y := nI _) (by assumption) ?_
  refine R_icF rfl (by first | assumption | exact icF (by decide) | exact ic_F (by omega) (by omega) (by simp only [icN, not_true_eq_false, not_false_eq_true] <;> omega) | exact ic_F0 (by omega) (by simp only [icN, not_true_eq_false, not_false_eq_true] <;> omega)) ?_
  refine R_aload_n rfl rfl ?_
  refine R_iconst (y := nI 5) rfl (by decide) ?_
  refine R_virt rfl rfl rfl rfl rfl rfl rfl (Nat.le_of_ble_eq_true rfl) (fun _ q => by cases q) (r_ends) ?_
  try refine R_top (y := nI _) (by assumption) ?_
  exact R_iret rfl rfl (by first | trivial | exact Or.inl rfl | exact Or.inr rfl | assumption) ⟨rfl, rfl⟩
theorem r_short14 {d : Nat} {M : Mem} {a w p f q b s : Nat} (ha : M 10 0 = nI a) (hw : M 5 0 = nI w) (haw : a < w) (hw2 : w ≤ 2000) (hB : M 4 a = nI b) (hb2 : b ≤ 15) (hp : M 14 0 = nI p) (hp1 : p ≤ 1000) (hf : M 22 0 = nI f) (hf0 : 0 < f) (hf1 : f ≤ 200) (hq : M 15 (f - 1) = nI q) (hqp : q ≤ p) (ho : M 2 a = nI 14) (hsh : p - q < wnt 14 b) : CalR (d + 2) j_X9_oneStep [.ref 0] M (some (.int (nI 5))) (up2 M 9 0 (nI 5)) := by
  have hsh : p - q < 1 := hsh
  have hwn : nI (wnt 14 b) = nI (1) := rfl
  refine CalR_of (md := md_X9_oneStep) (d := d + 1) rfl (Nat.le_of_ble_eq_true rfl) ?_
  show WR (CalR (d + 1)) t_X9_oneStep 9 (some .int) _ 0 [(0, .ref 0)] [] _
  refine R_aload_n rfl rfl ?_
  refine R_getI rfl rfl (Or.inl rfl) ?_
  try refine R_top (y := nI _) (by assumption) ?_
  refine R_aload_n rfl rfl ?_
  refine R_getI rfl rfl (Or.inl rfl) ?_
  try refine R_top (y := nI _) (by assumption) ?_
  refine R_icF rfl (by first | assumption | exact icF (by decide) | exact ic_F (by omega) (by omega) (by simp only [icN, not_true_eq_false, not_false_eq_true] <;> omega) | exact ic_F0 (by omega) (by simp only [icN, not_true_eq_false, not_false_eq_true] <;> omega)) ?_
  refine R_aload_n rfl rfl ?_
  refine R_getA rfl rfl (Or.inl rfl) ?_
  refine R_aload_n rfl rfl ?_
  refine R_getI rfl rfl (Or.inl rfl) ?_
  try refine R_top (y := nI _) (by assumption) ?_
  refine R_iald rfl rfl rfl (show _ < 2000 from by omega) ?_
  try refine R_top (y := nI _) (by assumption) ?_
  refine R_ifT (pc' := 39) rfl rfl (by first | assumption | exact icT (by decide) | exact ic_T (by omega) (by omega) (by simp only [icN, not_true_eq_false, not_false_eq_true] <;> omega) | exact ic_T0 (by omega) (by simp only [icN, not_true_eq_false, not_false_eq_true] <;> omega)) ?_
  refine R_aload_n rfl rfl ?_
  refine R_getA rfl rfl (Or.inl rfl) ?_
  refine R_aload_n rfl rfl ?_
  refine R_getI rfl rfl (Or.inl rfl) ?_
  try refine R_top (y := nI _) (by assumption) ?_
  refine R_iald rfl rfl rfl (show _ < 2000 from by omega) ?_
  try refine R_top (y := nI _) (by assumption) ?_
  refine R_istore_n (lv' := [(1, _), (0, _)]) rfl rfl ?_
  refine R_aload_n rfl rfl ?_
  refine R_getA rfl rfl (Or.inl rfl) ?_
  refine R_aload_n rfl rfl ?_
  refine R_getI rfl rfl (Or.inl rfl) ?_
  try refine R_top (y := nI _) (by assumption) ?_
  refine R_iald rfl rfl rfl (show _ < 2000 from by omega) ?_
  try refine R_top (y := nI _) (by assumption) ?_
  refine R_istore_n (lv' := [(2, _), (1, _), (0, _)]) rfl rfl ?_
  refine R_aload_n rfl rfl ?_
  refine R_getI rfl rfl (Or.inl rfl) ?_
  try refine R_top (y := nI _) (by assumption) ?_
  refine R_aload_n rfl rfl ?_
  refine R_getA rfl rfl (Or.inl rfl) ?_
  refine R_aload_n rfl rfl ?_
  refine R_getI rfl rfl (Or.inl rfl) ?_
  try refine R_top (y := nI _) (by assumption) ?_
  refine R_iconst (y := nI 1) rfl (by decide) ?_
  first | refine R_isubN rfl (by omega) ?_ | refine R_isub rfl ?_
  refine R_iald rfl rfl rfl (show _ < 200 from by omega) ?_
  try refine R_top (y := nI _) (by assumption) ?_
  first | refine R_isubN rfl (by omega) ?_ | refine R_isub rfl ?_
  refine R_iload_n rfl rfl ?_
  refine R_aload_n rfl rfl ?_
  refine R_getA rfl rfl (Or.inl rfl) ?_
  refine R_aload_n rfl rfl ?_
  refine R_getI rfl rfl (Or.inl rfl) ?_
  try refine R_top (y := nI _) (by assumption) ?_
  refine R_iald rfl rfl rfl (show _ < 2000 from by omega) ?_
  try refine R_top (y := nI _) (by assumption) ?_
  refine R_stat rfl rfl rfl (Nat.le_of_ble_eq_true rfl) rfl rfl (Nat.le_of_ble_eq_true rfl) (fun _ q => by cases q) (r_wants14) ?_
  try refine R_top (y := nI _) (by assumption) ?_
  refine R_icF rfl (by first | assumption | exact icF (by decide) | exact ic_F (by omega) (by omega) (by simp only [icN, not_true_eq_false, not_false_eq_true] <;> omega) | exact ic_F0 (by omega) (by simp only [icN, not_true_eq_false, not_false_eq_true] <;> omega)) ?_
  refine R_aload_n rfl rfl ?_
  refine R_iconst (y := nI 5) rfl (by decide) ?_
  refine R_virt rfl rfl rfl rfl rfl rfl rfl (Nat.le_of_ble_eq_true rfl) (fun _ q => by cases q) (r_ends) ?_
  try refine R_top (y := nI _) (by assumption) ?_
  exact R_iret rfl rfl (by first | trivial | exact Or.inl rfl | exact Or.inr rfl | assumption) ⟨rfl, rfl⟩
theorem r_short16 {d : Nat} {M : Mem} {a w p f q b s : Nat} (ha : M 10 0 = nI a) (hw : M 5 0 = nI w) (haw : a < w) (hw2 : w ≤ 2000) (hB : M 4 a = nI b) (hb2 : b ≤ 15) (hp : M 14 0 = nI p) (hp1 : p ≤ 1000) (hf : M 22 0 = nI f) (hf0 : 0 < f) (hf1 : f ≤ 200) (hq : M 15 (f - 1) = nI q) (hqp : q ≤ p) (ho : M 2 a = nI 16) (hsh : p - q < wnt 16 b) : CalR (d + 2) j_X9_oneStep [.ref 0] M (some (.int (nI 5))) (up2 M 9 0 (nI 5)) := by
  have hsh : p - q < 1 := hsh
  have hwn : nI (wnt 16 b) = nI (1) := rfl
  refine CalR_of (md := md_X9_oneStep) (d := d + 1) rfl (Nat.le_of_ble_eq_true rfl) ?_
  show WR (CalR (d + 1)) t_X9_oneStep 9 (some .int) _ 0 [(0, .ref 0)] [] _
  refine R_aload_n rfl rfl ?_
  refine R_getI rfl rfl (Or.inl rfl) ?_
  try refine R_top (y := nI _) (by assumption) ?_
  refine R_aload_n rfl rfl ?_
  refine R_getI rfl rfl (Or.inl rfl) ?_
  try refine R_top (y := nI _) (by assumption) ?_
  refine R_icF rfl (by first | assumption | exact icF (by decide) | exact ic_F (by omega) (by omega) (by simp only [icN, not_true_eq_false, not_false_eq_true] <;> omega) | exact ic_F0 (by omega) (by simp only [icN, not_true_eq_false, not_false_eq_true] <;> omega)) ?_
  refine R_aload_n rfl rfl ?_
  refine R_getA rfl rfl (Or.inl rfl) ?_
  refine R_aload_n rfl rfl ?_
  refine R_getI rfl rfl (Or.inl rfl) ?_
  try refine R_top (y := nI _) (by assumption) ?_
  refine R_iald rfl rfl rfl (show _ < 2000 from by omega) ?_
  try refine R_top (y := nI _) (by assumption) ?_
  refine R_ifT (pc' := 39) rfl rfl (by first | assumption | exact icT (by decide) | exact ic_T (by omega) (by omega) (by simp only [icN, not_true_eq_false, not_false_eq_true] <;> omega) | exact ic_T0 (by omega) (by simp only [icN, not_true_eq_false, not_false_eq_true] <;> omega)) ?_
  refine R_aload_n rfl rfl ?_
  refine R_getA rfl rfl (Or.inl rfl) ?_
  refine R_aload_n rfl rfl ?_
  refine R_getI rfl rfl (Or.inl rfl) ?_
  try refine R_top (y := nI _) (by assumption) ?_
  refine R_iald rfl rfl rfl (show _ < 2000 from by omega) ?_
  try refine R_top (y := nI _) (by assumption) ?_
  refine R_istore_n (lv' := [(1, _), (0, _)]) rfl rfl ?_
  refine R_aload_n rfl rfl ?_
  refine R_getA rfl rfl (Or.inl rfl) ?_
  refine R_aload_n rfl rfl ?_
  refine R_getI rfl rfl (Or.inl rfl) ?_
  try refine R_top (y := nI _) (by assumption) ?_
  refine R_iald rfl rfl rfl (show _ < 2000 from by omega) ?_
  try refine R_top (y := nI _) (by assumption) ?_
  refine R_istore_n (lv' := [(2, _), (1, _), (0, _)]) rfl rfl ?_
  refine R_aload_n rfl rfl ?_
  refine R_getI rfl rfl (Or.inl rfl) ?_
  try refine R_top (y := nI _) (by assumption) ?_
  refine R_aload_n rfl rfl ?_
  refine R_getA rfl rfl (Or.inl rfl) ?_
  refine R_aload_n rfl rfl ?_
  refine R_getI rfl rfl (Or.inl rfl) ?_
  try refine R_top (y := nI _) (by assumption) ?_
  refine R_iconst (y := nI 1) rfl (by decide) ?_
  first | refine R_isubN rfl (by omega) ?_ | refine R_isub rfl ?_
  refine R_iald rfl rfl rfl (show _ < 200 from by omega) ?_
  try refine R_top (y := nI _) (by assumption) ?_
  first | refine R_isubN rfl (by omega) ?_ | refine R_isub rfl ?_
  refine R_iload_n rfl rfl ?_
  refine R_aload_n rfl rfl ?_
  refine R_getA rfl rfl (Or.inl rfl) ?_
  refine R_aload_n rfl rfl ?_
  refine R_getI rfl rfl (Or.inl rfl) ?_
  try refine R_top (y := nI _) (by assumption) ?_
  refine R_iald rfl rfl rfl (show _ < 2000 from by omega) ?_
  try refine R_top (y := nI _) (by assumption) ?_
  refine R_stat rfl rfl rfl (Nat.le_of_ble_eq_true rfl) rfl rfl (Nat.le_of_ble_eq_true rfl) (fun _ q => by cases q) (r_wants16) ?_
  try refine R_top (y := nI _) (by assumption) ?_
  refine R_icF rfl (by first | assumption | exact icF (by decide) | exact ic_F (by omega) (by omega) (by simp only [icN, not_true_eq_false, not_false_eq_true] <;> omega) | exact ic_F0 (by omega) (by simp only [icN, not_true_eq_false, not_false_eq_true] <;> omega)) ?_
  refine R_aload_n rfl rfl ?_
  refine R_iconst (y := nI 5) rfl (by decide) ?_
  refine R_virt rfl rfl rfl rfl rfl rfl rfl (Nat.le_of_ble_eq_true rfl) (fun _ q => by cases q) (r_ends) ?_
  try refine R_top (y := nI _) (by assumption) ?_
  exact R_iret rfl rfl (by first | trivial | exact Or.inl rfl | exact Or.inr rfl | assumption) ⟨rfl, rfl⟩
theorem r_short18 {d : Nat} {M : Mem} {a w p f q b s : Nat} (ha : M 10 0 = nI a) (hw : M 5 0 = nI w) (haw : a < w) (hw2 : w ≤ 2000) (hB : M 4 a = nI b) (hb2 : b ≤ 15) (hp : M 14 0 = nI p) (hp1 : p ≤ 1000) (hf : M 22 0 = nI f) (hf0 : 0 < f) (hf1 : f ≤ 200) (hq : M 15 (f - 1) = nI q) (hqp : q ≤ p) (ho : M 2 a = nI 18) (hsh : p - q < wnt 18 b) : CalR (d + 2) j_X9_oneStep [.ref 0] M (some (.int (nI 5))) (up2 M 9 0 (nI 5)) := by
  have hsh : p - q < 1 := hsh
  have hwn : nI (wnt 18 b) = nI (1) := rfl
  refine CalR_of (md := md_X9_oneStep) (d := d + 1) rfl (Nat.le_of_ble_eq_true rfl) ?_
  show WR (CalR (d + 1)) t_X9_oneStep 9 (some .int) _ 0 [(0, .ref 0)] [] _
  refine R_aload_n rfl rfl ?_
  refine R_getI rfl rfl (Or.inl rfl) ?_
  try refine R_top (y := nI _) (by assumption) ?_
  refine R_aload_n rfl rfl ?_
  refine R_getI rfl rfl (Or.inl rfl) ?_
  try refine R_top (y := nI _) (by assumption) ?_
  refine R_icF rfl (by first | assumption | exact icF (by decide) | exact ic_F (by omega) (by omega) (by simp only [icN, not_true_eq_false, not_false_eq_true] <;> omega) | exact ic_F0 (by omega) (by simp only [icN, not_true_eq_false, not_false_eq_true] <;> omega)) ?_
  refine R_aload_n rfl rfl ?_
  refine R_getA rfl rfl (Or.inl rfl) ?_
  refine R_aload_n rfl rfl ?_
  refine R_getI rfl rfl (Or.inl rfl) ?_
  try refine R_top (y := nI _) (by assumption) ?_
  refine R_iald rfl rfl rfl (show _ < 2000 from by omega) ?_
  try refine R_top (y := nI _) (by assumption) ?_
  refine R_ifT (pc' := 39) rfl rfl (by first | assumption | exact icT (by decide) | exact ic_T (by omega) (by omega) (by simp only [icN, not_true_eq_false, not_false_eq_true] <;> omega) | exact ic_T0 (by omega) (by simp only [icN, not_true_eq_false, not_false_eq_true] <;> omega)) ?_
  refine R_aload_n rfl rfl ?_
  refine R_getA rfl rfl (Or.inl rfl) ?_
  refine R_aload_n rfl rfl ?_
  refine R_getI rfl rfl (Or.inl rfl) ?_
  try refine R_top (y := nI _) (by assumption) ?_
  refine R_iald rfl rfl rfl (show _ < 2000 from by omega) ?_
  try refine R_top (y := nI _) (by assumption) ?_
  refine R_istore_n (lv' := [(1, _), (0, _)]) rfl rfl ?_
  refine R_aload_n rfl rfl ?_
  refine R_getA rfl rfl (Or.inl rfl) ?_
  refine R_aload_n rfl rfl ?_
  refine R_getI rfl rfl (Or.inl rfl) ?_
  try refine R_top (y := nI _) (by assumption) ?_
  refine R_iald rfl rfl rfl (show _ < 2000 from by omega) ?_
  try refine R_top (y := nI _) (by assumption) ?_
  refine R_istore_n (lv' := [(2, _), (1, _), (0, _)]) rfl rfl ?_
  refine R_aload_n rfl rfl ?_
  refine R_getI rfl rfl (Or.inl rfl) ?_
  try refine R_top (y := nI _) (by assumption) ?_
  refine R_aload_n rfl rfl ?_
  refine R_getA rfl rfl (Or.inl rfl) ?_
  refine R_aload_n rfl rfl ?_
  refine R_getI rfl rfl (Or.inl rfl) ?_
  try refine R_top (y := nI _) (by assumption) ?_
  refine R_iconst (y := nI 1) rfl (by decide) ?_
  first | refine R_isubN rfl (by omega) ?_ | refine R_isub rfl ?_
  refine R_iald rfl rfl rfl (show _ < 200 from by omega) ?_
  try refine R_top (y := nI _) (by assumption) ?_
  first | refine R_isubN rfl (by omega) ?_ | refine R_isub rfl ?_
  refine R_iload_n rfl rfl ?_
  refine R_aload_n rfl rfl ?_
  refine R_getA rfl rfl (Or.inl rfl) ?_
  refine R_aload_n rfl rfl ?_
  refine R_getI rfl rfl (Or.inl rfl) ?_
  try refine R_top (y := nI _) (by assumption) ?_
  refine R_iald rfl rfl rfl (show _ < 2000 from by omega) ?_
  try refine R_top (y := nI _) (by assumption) ?_
  refine R_stat rfl rfl rfl (Nat.le_of_ble_eq_true rfl) rfl rfl (Nat.le_of_ble_eq_true rfl) (fun _ q => by cases q) (r_wants18) ?_
  try refine R_top (y := nI _) (by assumption) ?_
  refine R_icF rfl (by first | assumption | exact icF (by decide) | exact ic_F (by omega) (by omega) (by simp only [icN, not_true_eq_false, not_false_eq_true] <;> omega) | exact ic_F0 (by omega) (by simp only [icN, not_true_eq_false, not_false_eq_true] <;> omega)) ?_
  refine R_aload_n rfl rfl ?_
  refine R_iconst (y := nI 5) rfl (by decide) ?_
  refine R_virt rfl rfl rfl rfl rfl rfl rfl (Nat.le_of_ble_eq_true rfl) (fun _ q => by cases q) (r_ends) ?_
  try refine R_top (y := nI _) (by assumption) ?_
  exact R_iret rfl rfl (by first | trivial | exact Or.inl rfl | exact Or.inr rfl | assumption) ⟨rfl, rfl⟩
theorem r_short19 {d : Nat} {M : Mem} {a w p f q b s : Nat} (ha : M 10 0 = nI a) (hw : M 5 0 = nI w) (haw : a < w) (hw2 : w ≤ 2000) (hB : M 4 a = nI b) (hb2 : b ≤ 15) (hp : M 14 0 = nI p) (hp1 : p ≤ 1000) (hf : M 22 0 = nI f) (hf0 : 0 < f) (hf1 : f ≤ 200) (hq : M 15 (f - 1) = nI q) (hqp : q ≤ p) (ho : M 2 a = nI 19) (hsh : p - q < wnt 19 b) : CalR (d + 2) j_X9_oneStep [.ref 0] M (some (.int (nI 5))) (up2 M 9 0 (nI 5)) := by
  have hsh : p - q < 1 := hsh
  have hwn : nI (wnt 19 b) = nI (1) := rfl
  refine CalR_of (md := md_X9_oneStep) (d := d + 1) rfl (Nat.le_of_ble_eq_true rfl) ?_
  show WR (CalR (d + 1)) t_X9_oneStep 9 (some .int) _ 0 [(0, .ref 0)] [] _
  refine R_aload_n rfl rfl ?_
  refine R_getI rfl rfl (Or.inl rfl) ?_
  try refine R_top (y := nI _) (by assumption) ?_
  refine R_aload_n rfl rfl ?_
  refine R_getI rfl rfl (Or.inl rfl) ?_
  try refine R_top (y := nI _) (by assumption) ?_
  refine R_icF rfl (by first | assumption | exact icF (by decide) | exact ic_F (by omega) (by omega) (by simp only [icN, not_true_eq_false, not_false_eq_true] <;> omega) | exact ic_F0 (by omega) (by simp only [icN, not_true_eq_false, not_false_eq_true] <;> omega)) ?_
  refine R_aload_n rfl rfl ?_
  refine R_getA rfl rfl (Or.inl rfl) ?_
  refine R_aload_n rfl rfl ?_
  refine R_getI rfl rfl (Or.inl rfl) ?_
  try refine R_top (y := nI _) (by assumption) ?_
  refine R_iald rfl rfl rfl (show _ < 2000 from by omega) ?_
  try refine R_top (y := nI _) (by assumption) ?_
  refine R_ifT (pc' := 39) rfl rfl (by first | assumption | exact icT (by decide) | exact ic_T (by omega) (by omega) (by simp only [icN, not_true_eq_false, not_false_eq_true] <;> omega) | exact ic_T0 (by omega) (by simp only [icN, not_true_eq_false, not_false_eq_true] <;> omega)) ?_
  refine R_aload_n rfl rfl ?_
  refine R_getA rfl rfl (Or.inl rfl) ?_
  refine R_aload_n rfl rfl ?_
  refine R_getI rfl rfl (Or.inl rfl) ?_
  try refine R_top (y := nI _) (by assumption) ?_
  refine R_iald rfl rfl rfl (show _ < 2000 from by omega) ?_
  try refine R_top (y := nI _) (by assumption) ?_
  refine R_istore_n (lv' := [(1, _), (0, _)]) rfl rfl ?_
  refine R_aload_n rfl rfl ?_
  refine R_getA rfl rfl (Or.inl rfl) ?_
  refine R_aload_n rfl rfl ?_
  refine R_getI rfl rfl (Or.inl rfl) ?_
  try refine R_top (y := nI _) (by assumption) ?_
  refine R_iald rfl rfl rfl (show _ < 2000 from by omega) ?_
  try refine R_top (y := nI _) (by assumption) ?_
  refine R_istore_n (lv' := [(2, _), (1, _), (0, _)]) rfl rfl ?_
  refine R_aload_n rfl rfl ?_
  refine R_getI rfl rfl (Or.inl rfl) ?_
  try refine R_top (y := nI _) (by assumption) ?_
  refine R_aload_n rfl rfl ?_
  refine R_getA rfl rfl (Or.inl rfl) ?_
  refine R_aload_n rfl rfl ?_
  refine R_getI rfl rfl (Or.inl rfl) ?_
  try refine R_top (y := nI _) (by assumption) ?_
  refine R_iconst (y := nI 1) rfl (by decide) ?_
  first | refine R_isubN rfl (by omega) ?_ | refine R_isub rfl ?_
  refine R_iald rfl rfl rfl (show _ < 200 from by omega) ?_
  try refine R_top (y := nI _) (by assumption) ?_
  first | refine R_isubN rfl (by omega) ?_ | refine R_isub rfl ?_
  refine R_iload_n rfl rfl ?_
  refine R_aload_n rfl rfl ?_
  refine R_getA rfl rfl (Or.inl rfl) ?_
  refine R_aload_n rfl rfl ?_
  refine R_getI rfl rfl (Or.inl rfl) ?_
  try refine R_top (y := nI _) (by assumption) ?_
  refine R_iald rfl rfl rfl (show _ < 2000 from by omega) ?_
  try refine R_top (y := nI _) (by assumption) ?_
  refine R_stat rfl rfl rfl (Nat.le_of_ble_eq_true rfl) rfl rfl (Nat.le_of_ble_eq_true rfl) (fun _ q => by cases q) (r_wants19) ?_
  try refine R_top (y := nI _) (by assumption) ?_
  refine R_icF rfl (by first | assumption | exact icF (by decide) | exact ic_F (by omega) (by omega) (by simp only [icN, not_true_eq_false, not_false_eq_true] <;> omega) | exact ic_F0 (by omega) (by simp only [icN, not_true_eq_false, not_false_eq_true] <;> omega)) ?_
  refine R_aload_n rfl rfl ?_
  refine R_iconst (y := nI 5) rfl (by decide) ?_
  refine R_virt rfl rfl rfl rfl rfl rfl rfl (Nat.le_of_ble_eq_true rfl) (fun _ q => by cases q) (r_ends) ?_
  try refine R_top (y := nI _) (by assumption) ?_
  exact R_iret rfl rfl (by first | trivial | exact Or.inl rfl | exact Or.inr rfl | assumption) ⟨rfl, rfl⟩
theorem r_short20 {d : Nat} {M : Mem} {a w p f q b s : Nat} (ha : M 10 0 = nI a) (hw : M 5 0 = nI w) (haw : a < w) (hw2 : w ≤ 2000) (hB : M 4 a = nI b) (hb2 : b ≤ 15) (hp : M 14 0 = nI p) (hp1 : p ≤ 1000) (hf : M 22 0 = nI f) (hf0 : 0 < f) (hf1 : f ≤ 200) (hq : M 15 (f - 1) = nI q) (hqp : q ≤ p) (ho : M 2 a = nI 20) (hsh : p - q < wnt 20 b) : CalR (d + 2) j_X9_oneStep [.ref 0] M (some (.int (nI 5))) (up2 M 9 0 (nI 5)) := by
  have hsh : p - q < 1 := hsh
  have hwn : nI (wnt 20 b) = nI (1) := rfl
  refine CalR_of (md := md_X9_oneStep) (d := d + 1) rfl (Nat.le_of_ble_eq_true rfl) ?_
  show WR (CalR (d + 1)) t_X9_oneStep 9 (some .int) _ 0 [(0, .ref 0)] [] _
  refine R_aload_n rfl rfl ?_
  refine R_getI rfl rfl (Or.inl rfl) ?_
  try refine R_top (y := nI _) (by assumption) ?_
  refine R_aload_n rfl rfl ?_
  refine R_getI rfl rfl (Or.inl rfl) ?_
  try refine R_top (y := nI _) (by assumption) ?_
  refine R_icF rfl (by first | assumption | exact icF (by decide) | exact ic_F (by omega) (by omega) (by simp only [icN, not_true_eq_false, not_false_eq_true] <;> omega) | exact ic_F0 (by omega) (by simp only [icN, not_true_eq_false, not_false_eq_true] <;> omega)) ?_
  refine R_aload_n rfl rfl ?_
  refine R_getA rfl rfl (Or.inl rfl) ?_
  refine R_aload_n rfl rfl ?_
  refine R_getI rfl rfl (Or.inl rfl) ?_
  try refine R_top (y := nI _) (by assumption) ?_
  refine R_iald rfl rfl rfl (show _ < 2000 from by omega) ?_
  try refine R_top (y := nI _) (by assumption) ?_
  refine R_ifT (pc' := 39) rfl rfl (by first | assumption | exact icT (by decide) | exact ic_T (by omega) (by omega) (by simp only [icN, not_true_eq_false, not_false_eq_true] <;> omega) | exact ic_T0 (by omega) (by simp only [icN, not_true_eq_false, not_false_eq_true] <;> omega)) ?_
  refine R_aload_n rfl rfl ?_
  refine R_getA rfl rfl (Or.inl rfl) ?_
  refine R_aload_n rfl rfl ?_
  refine R_getI rfl rfl (Or.inl rfl) ?_
  try refine R_top (y := nI _) (by assumption) ?_
  refine R_iald rfl rfl rfl (show _ < 2000 from by omega) ?_
  try refine R_top (y := nI _) (by assumption) ?_
  refine R_istore_n (lv' := [(1, _), (0, _)]) rfl rfl ?_
  refine R_aload_n rfl rfl ?_
  refine R_getA rfl rfl (Or.inl rfl) ?_
  refine R_aload_n rfl rfl ?_
  refine R_getI rfl rfl (Or.inl rfl) ?_
  try refine R_top (y := nI _) (by assumption) ?_
  refine R_iald rfl rfl rfl (show _ < 2000 from by omega) ?_
  try refine R_top (y := nI _) (by assumption) ?_
  refine R_istore_n (lv' := [(2, _), (1, _), (0, _)]) rfl rfl ?_
  refine R_aload_n rfl rfl ?_
  refine R_getI rfl rfl (Or.inl rfl) ?_
  try refine R_top (y := nI _) (by assumption) ?_
  refine R_aload_n rfl rfl ?_
  refine R_getA rfl rfl (Or.inl rfl) ?_
  refine R_aload_n rfl rfl ?_
  refine R_getI rfl rfl (Or.inl rfl) ?_
  try refine R_top (y := nI _) (by assumption) ?_
  refine R_iconst (y := nI 1) rfl (by decide) ?_
  first | refine R_isubN rfl (by omega) ?_ | refine R_isub rfl ?_
  refine R_iald rfl rfl rfl (show _ < 200 from by omega) ?_
  try refine R_top (y := nI _) (by assumption) ?_
  first | refine R_isubN rfl (by omega) ?_ | refine R_isub rfl ?_
  refine R_iload_n rfl rfl ?_
  refine R_aload_n rfl rfl ?_
  refine R_getA rfl rfl (Or.inl rfl) ?_
  refine R_aload_n rfl rfl ?_
  refine R_getI rfl rfl (Or.inl rfl) ?_
  try refine R_top (y := nI _) (by assumption) ?_
  refine R_iald rfl rfl rfl (show _ < 2000 from by omega) ?_
  try refine R_top (y := nI _) (by assumption) ?_
  refine R_stat rfl rfl rfl (Nat.le_of_ble_eq_true rfl) rfl rfl (Nat.le_of_ble_eq_true rfl) (fun _ q => by cases q) (r_wants20) ?_
  try refine R_top (y := nI _) (by assumption) ?_
  refine R_icF rfl (by first | assumption | exact icF (by decide) | exact ic_F (by omega) (by omega) (by simp only [icN, not_true_eq_false, not_false_eq_true] <;> omega) | exact ic_F0 (by omega) (by simp only [icN, not_true_eq_false, not_false_eq_true] <;> omega)) ?_
  refine R_aload_n rfl rfl ?_
  refine R_iconst (y := nI 5) rfl (by decide) ?_
  refine R_virt rfl rfl rfl rfl rfl rfl rfl (Nat.le_of_ble_eq_true rfl) (fun _ q => by cases q) (r_ends) ?_
  try refine R_top (y := nI _) (by assumption) ?_
  exact R_iret rfl rfl (by first | trivial | exact Or.inl rfl | exact Or.inr rfl | assumption) ⟨rfl, rfl⟩
theorem r_short21 {d : Nat} {M : Mem} {a w p f q b s : Nat} (ha : M 10 0 = nI a) (hw : M 5 0 = nI w) (haw : a < w) (hw2 : w ≤ 2000) (hB : M 4 a = nI b) (hb2 : b ≤ 15) (hp : M 14 0 = nI p) (hp1 : p ≤ 1000) (hf : M 22 0 = nI f) (hf0 : 0 < f) (hf1 : f ≤ 200) (hq : M 15 (f - 1) = nI q) (hqp : q ≤ p) (ho : M 2 a = nI 21) (hsh : p - q < wnt 21 b) : CalR (d + 2) j_X9_oneStep [.ref 0] M (some (.int (nI 5))) (up2 M 9 0 (nI 5)) := by
  have hsh : p - q < 1 := hsh
  have hwn : nI (wnt 21 b) = nI (1) := rfl
  refine CalR_of (md := md_X9_oneStep) (d := d + 1) rfl (Nat.le_of_ble_eq_true rfl) ?_
  show WR (CalR (d + 1)) t_X9_oneStep 9 (some .int) _ 0 [(0, .ref 0)] [] _
  refine R_aload_n rfl rfl ?_
  refine R_getI rfl rfl (Or.inl rfl) ?_
  try refine R_top (y := nI _) (by assumption) ?_
  refine R_aload_n rfl rfl ?_
  refine R_getI rfl rfl (Or.inl rfl) ?_
  try refine R_top (y := nI _) (by assumption) ?_
  refine R_icF rfl (by first | assumption | exact icF (by decide) | exact ic_F (by omega) (by omega) (by simp only [icN, not_true_eq_false, not_false_eq_true] <;> omega) | exact ic_F0 (by omega) (by simp only [icN, not_true_eq_false, not_false_eq_true] <;> omega)) ?_
  refine R_aload_n rfl rfl ?_
  refine R_getA rfl rfl (Or.inl rfl) ?_
  refine R_aload_n rfl rfl ?_
  refine R_getI rfl rfl (Or.inl rfl) ?_
  try refine R_top (y := nI _) (by assumption) ?_
  refine R_iald rfl rfl rfl (show _ < 2000 from by omega) ?_
  try refine R_top (y := nI _) (by assumption) ?_
  refine R_ifT (pc' := 39) rfl rfl (by first | assumption | exact icT (by decide) | exact ic_T (by omega) (by omega) (by simp only [icN, not_true_eq_false, not_false_eq_true] <;> omega) | exact ic_T0 (by omega) (by simp only [icN, not_true_eq_false, not_false_eq_true] <;> omega)) ?_
  refine R_aload_n rfl rfl ?_
  refine R_getA rfl rfl (Or.inl rfl) ?_
  refine R_aload_n rfl rfl ?_
  refine R_getI rfl rfl (Or.inl rfl) ?_
  try refine R_top (y := nI _) (by assumption) ?_
  refine R_iald rfl rfl rfl (show _ < 2000 from by omega) ?_
  try refine R_top (y := nI _) (by assumption) ?_
  refine R_istore_n (lv' := [(1, _), (0, _)]) rfl rfl ?_
  refine R_aload_n rfl rfl ?_
  refine R_getA rfl rfl (Or.inl rfl) ?_
  refine R_aload_n rfl rfl ?_
  refine R_getI rfl rfl (Or.inl rfl) ?_
  try refine R_top (y := nI _) (by assumption) ?_
  refine R_iald rfl rfl rfl (show _ < 2000 from by omega) ?_
  try refine R_top (y := nI _) (by assumption) ?_
  refine R_istore_n (lv' := [(2, _), (1, _), (0, _)]) rfl rfl ?_
  refine R_aload_n rfl rfl ?_
  refine R_getI rfl rfl (Or.inl rfl) ?_
  try refine R_top (y := nI _) (by assumption) ?_
  refine R_aload_n rfl rfl ?_
  refine R_getA rfl rfl (Or.inl rfl) ?_
  refine R_aload_n rfl rfl ?_
  refine R_getI rfl rfl (Or.inl rfl) ?_
  try refine R_top (y := nI _) (by assumption) ?_
  refine R_iconst (y := nI 1) rfl (by decide) ?_
  first | refine R_isubN rfl (by omega) ?_ | refine R_isub rfl ?_
  refine R_iald rfl rfl rfl (show _ < 200 from by omega) ?_
  try refine R_top (y := nI _) (by assumption) ?_
  first | refine R_isubN rfl (by omega) ?_ | refine R_isub rfl ?_
  refine R_iload_n rfl rfl ?_
  refine R_aload_n rfl rfl ?_
  refine R_getA rfl rfl (Or.inl rfl) ?_
  refine R_aload_n rfl rfl ?_
  refine R_getI rfl rfl (Or.inl rfl) ?_
  try refine R_top (y := nI _) (by assumption) ?_
  refine R_iald rfl rfl rfl (show _ < 2000 from by omega) ?_
  try refine R_top (y := nI _) (by assumption) ?_
  refine R_stat rfl rfl rfl (Nat.le_of_ble_eq_true rfl) rfl rfl (Nat.le_of_ble_eq_true rfl) (fun _ q => by cases q) (r_wants21) ?_
  try refine R_top (y := nI _) (by assumption) ?_
  refine R_icF rfl (by first | assumption | exact icF (by decide) | exact ic_F (by omega) (by omega) (by simp only [icN, not_true_eq_false, not_false_eq_true] <;> omega) | exact ic_F0 (by omega) (by simp only [icN, not_true_eq_false, not_false_eq_true] <;> omega)) ?_
  refine R_aload_n rfl rfl ?_
  refine R_iconst (y := nI 5) rfl (by decide) ?_
  refine R_virt rfl rfl rfl rfl rfl rfl rfl (Nat.le_of_ble_eq_true rfl) (fun _ q => by cases q) (r_ends) ?_
  try refine R_top (y := nI _) (by assumption) ?_
  exact R_iret rfl rfl (by first | trivial | exact Or.inl rfl | exact Or.inr rfl | assumption) ⟨rfl, rfl⟩
theorem r_short22 {d : Nat} {M : Mem} {a w p f q b s : Nat} (ha : M 10 0 = nI a) (hw : M 5 0 = nI w) (haw : a < w) (hw2 : w ≤ 2000) (hB : M 4 a = nI b) (hb2 : b ≤ 15) (hp : M 14 0 = nI p) (hp1 : p ≤ 1000) (hf : M 22 0 = nI f) (hf0 : 0 < f) (hf1 : f ≤ 200) (hq : M 15 (f - 1) = nI q) (hqp : q ≤ p) (ho : M 2 a = nI 22) (hsh : p - q < wnt 22 b) : CalR (d + 2) j_X9_oneStep [.ref 0] M (some (.int (nI 5))) (up2 M 9 0 (nI 5)) := by
  have hsh : p - q < 2 := hsh
  have hwn : nI (wnt 22 b) = nI (2) := rfl
  refine CalR_of (md := md_X9_oneStep) (d := d + 1) rfl (Nat.le_of_ble_eq_true rfl) ?_
  show WR (CalR (d + 1)) t_X9_oneStep 9 (some .int) _ 0 [(0, .ref 0)] [] _
  refine R_aload_n rfl rfl ?_
  refine R_getI rfl rfl (Or.inl rfl) ?_
  try refine R_top (y := nI _) (by assumption) ?_
  refine R_aload_n rfl rfl ?_
  refine R_getI rfl rfl (Or.inl rfl) ?_
  try refine R_top (y := nI _) (by assumption) ?_
  refine R_icF rfl (by first | assumption | exact icF (by decide) | exact ic_F (by omega) (by omega) (by simp only [icN, not_true_eq_false, not_false_eq_true] <;> omega) | exact ic_F0 (by omega) (by simp only [icN, not_true_eq_false, not_false_eq_true] <;> omega)) ?_
  refine R_aload_n rfl rfl ?_
  refine R_getA rfl rfl (Or.inl rfl) ?_
  refine R_aload_n rfl rfl ?_
  refine R_getI rfl rfl (Or.inl rfl) ?_
  try refine R_top (y := nI _) (by assumption) ?_
  refine R_iald rfl rfl rfl (show _ < 2000 from by omega) ?_
  try refine R_top (y := nI _) (by assumption) ?_
  refine R_ifT (pc' := 39) rfl rfl (by first | assumption | exact icT (by decide) | exact ic_T (by omega) (by omega) (by simp only [icN, not_true_eq_false, not_false_eq_true] <;> omega) | exact ic_T0 (by omega) (by simp only [icN, not_true_eq_false, not_false_eq_true] <;> omega)) ?_
  refine R_aload_n rfl rfl ?_
  refine R_getA rfl rfl (Or.inl rfl) ?_
  refine R_aload_n rfl rfl ?_
  refine R_getI rfl rfl (Or.inl rfl) ?_
  try refine R_top (y := nI _) (by assumption) ?_
  refine R_iald rfl rfl rfl (show _ < 2000 from by omega) ?_
  try refine R_top (y := nI _) (by assumption) ?_
  refine R_istore_n (lv' := [(1, _), (0, _)]) rfl rfl ?_
  refine R_aload_n rfl rfl ?_
  refine R_getA rfl rfl (Or.inl rfl) ?_
  refine R_aload_n rfl rfl ?_
  refine R_getI rfl rfl (Or.inl rfl) ?_
  try refine R_top (y := nI _) (by assumption) ?_
  refine R_iald rfl rfl rfl (show _ < 2000 from by omega) ?_
  try refine R_top (y := nI _) (by assumption) ?_
  refine R_istore_n (lv' := [(2, _), (1, _), (0, _)]) rfl rfl ?_
  refine R_aload_n rfl rfl ?_
  refine R_getI rfl rfl (Or.inl rfl) ?_
  try refine R_top (y := nI _) (by assumption) ?_
  refine R_aload_n rfl rfl ?_
  refine R_getA rfl rfl (Or.inl rfl) ?_
  refine R_aload_n rfl rfl ?_
  refine R_getI rfl rfl (Or.inl rfl) ?_
  try refine R_top (y := nI _) (by assumption) ?_
  refine R_iconst (y := nI 1) rfl (by decide) ?_
  first | refine R_isubN rfl (by omega) ?_ | refine R_isub rfl ?_
  refine R_iald rfl rfl rfl (show _ < 200 from by omega) ?_
  try refine R_top (y := nI _) (by assumption) ?_
  first | refine R_isubN rfl (by omega) ?_ | refine R_isub rfl ?_
  refine R_iload_n rfl rfl ?_
  refine R_aload_n rfl rfl ?_
  refine R_getA rfl rfl (Or.inl rfl) ?_
  refine R_aload_n rfl rfl ?_
  refine R_getI rfl rfl (Or.inl rfl) ?_
  try refine R_top (y := nI _) (by assumption) ?_
  refine R_iald rfl rfl rfl (show _ < 2000 from by omega) ?_
  try refine R_top (y := nI _) (by assumption) ?_
  refine R_stat rfl rfl rfl (Nat.le_of_ble_eq_true rfl) rfl rfl (Nat.le_of_ble_eq_true rfl) (fun _ q => by cases q) (r_wants22) ?_
  try refine R_top (y := nI _) (by assumption) ?_
  refine R_icF rfl (by first | assumption | exact icF (by decide) | exact ic_F (by omega) (by omega) (by simp only [icN, not_true_eq_false, not_false_eq_true] <;> omega) | exact ic_F0 (by omega) (by simp only [icN, not_true_eq_false, not_false_eq_true] <;> omega)) ?_
  refine R_aload_n rfl rfl ?_
  refine R_iconst (y := nI 5) rfl (by decide) ?_
  refine R_virt rfl rfl rfl rfl rfl rfl rfl (Nat.le_of_ble_eq_true rfl) (fun _ q => by cases q) (r_ends) ?_
  try refine R_top (y := nI _) (by assumption) ?_
  exact R_iret rfl rfl (by first | trivial | exact Or.inl rfl | exact Or.inr rfl | assumption) ⟨rfl, rfl⟩
theorem r_short23 {d : Nat} {M : Mem} {a w p f q b s : Nat} (ha : M 10 0 = nI a) (hw : M 5 0 = nI w) (haw : a < w) (hw2 : w ≤ 2000) (hB : M 4 a = nI b) (hb2 : b ≤ 15) (hp : M 14 0 = nI p) (hp1 : p ≤ 1000) (hf : M 22 0 = nI f) (hf0 : 0 < f) (hf1 : f ≤ 200) (hq : M 15 (f - 1) = nI q) (hqp : q ≤ p) (ho : M 2 a = nI 23) (hsh : p - q < wnt 23 b) : CalR (d + 2) j_X9_oneStep [.ref 0] M (some (.int (nI 5))) (up2 M 9 0 (nI 5)) := by
  have hsh : p - q < 1 := hsh
  have hwn : nI (wnt 23 b) = nI (1) := rfl
  refine CalR_of (md := md_X9_oneStep) (d := d + 1) rfl (Nat.le_of_ble_eq_true rfl) ?_
  show WR (CalR (d + 1)) t_X9_oneStep 9 (some .int) _ 0 [(0, .ref 0)] [] _
  refine R_aload_n rfl rfl ?_
  refine R_getI rfl rfl (Or.inl rfl) ?_
  try refine R_top (y := nI _) (by assumption) ?_
  refine R_aload_n rfl rfl ?_
  refine R_getI rfl rfl (Or.inl rfl) ?_
  try refine R_top (y := nI _) (by assumption) ?_
  refine R_icF rfl (by first | assumption | exact icF (by decide) | exact ic_F (by omega) (by omega) (by simp only [icN, not_true_eq_false, not_false_eq_true] <;> omega) | exact ic_F0 (by omega) (by simp only [icN, not_true_eq_false, not_false_eq_true] <;> omega)) ?_
  refine R_aload_n rfl rfl ?_
  refine R_getA rfl rfl (Or.inl rfl) ?_
  refine R_aload_n rfl rfl ?_
  refine R_getI rfl rfl (Or.inl rfl) ?_
  try refine R_top (y := nI _) (by assumption) ?_
  refine R_iald rfl rfl rfl (show _ < 2000 from by omega) ?_
  try refine R_top (y := nI _) (by assumption) ?_
  refine R_ifT (pc' := 39) rfl rfl (by first | assumption | exact icT (by decide) | exact ic_T (by omega) (by omega) (by simp only [icN, not_true_eq_false, not_false_eq_true] <;> omega) | exact ic_T0 (by omega) (by simp only [icN, not_true_eq_false, not_false_eq_true] <;> omega)) ?_
  refine R_aload_n rfl rfl ?_
  refine R_getA rfl rfl (Or.inl rfl) ?_
  refine R_aload_n rfl rfl ?_
  refine R_getI rfl rfl (Or.inl rfl) ?_
  try refine R_top (y := nI _) (by assumption) ?_
  refine R_iald rfl rfl rfl (show _ < 2000 from by omega) ?_
  try refine R_top (y := nI _) (by assumption) ?_
  refine R_istore_n (lv' := [(1, _), (0, _)]) rfl rfl ?_
  refine R_aload_n rfl rfl ?_
  refine R_getA rfl rfl (Or.inl rfl) ?_
  refine R_aload_n rfl rfl ?_
  refine R_getI rfl rfl (Or.inl rfl) ?_
  try refine R_top (y := nI _) (by assumption) ?_
  refine R_iald rfl rfl rfl (show _ < 2000 from by omega) ?_
  try refine R_top (y := nI _) (by assumption) ?_
  refine R_istore_n (lv' := [(2, _), (1, _), (0, _)]) rfl rfl ?_
  refine R_aload_n rfl rfl ?_
  refine R_getI rfl rfl (Or.inl rfl) ?_
  try refine R_top (y := nI _) (by assumption) ?_
  refine R_aload_n rfl rfl ?_
  refine R_getA rfl rfl (Or.inl rfl) ?_
  refine R_aload_n rfl rfl ?_
  refine R_getI rfl rfl (Or.inl rfl) ?_
  try refine R_top (y := nI _) (by assumption) ?_
  refine R_iconst (y := nI 1) rfl (by decide) ?_
  first | refine R_isubN rfl (by omega) ?_ | refine R_isub rfl ?_
  refine R_iald rfl rfl rfl (show _ < 200 from by omega) ?_
  try refine R_top (y := nI _) (by assumption) ?_
  first | refine R_isubN rfl (by omega) ?_ | refine R_isub rfl ?_
  refine R_iload_n rfl rfl ?_
  refine R_aload_n rfl rfl ?_
  refine R_getA rfl rfl (Or.inl rfl) ?_
  refine R_aload_n rfl rfl ?_
  refine R_getI rfl rfl (Or.inl rfl) ?_
  try refine R_top (y := nI _) (by assumption) ?_
  refine R_iald rfl rfl rfl (show _ < 2000 from by omega) ?_
  try refine R_top (y := nI _) (by assumption) ?_
  refine R_stat rfl rfl rfl (Nat.le_of_ble_eq_true rfl) rfl rfl (Nat.le_of_ble_eq_true rfl) (fun _ q => by cases q) (r_wants23) ?_
  try refine R_top (y := nI _) (by assumption) ?_
  refine R_icF rfl (by first | assumption | exact icF (by decide) | exact ic_F (by omega) (by omega) (by simp only [icN, not_true_eq_false, not_false_eq_true] <;> omega) | exact ic_F0 (by omega) (by simp only [icN, not_true_eq_false, not_false_eq_true] <;> omega)) ?_
  refine R_aload_n rfl rfl ?_
  refine R_iconst (y := nI 5) rfl (by decide) ?_
  refine R_virt rfl rfl rfl rfl rfl rfl rfl (Nat.le_of_ble_eq_true rfl) (fun _ q => by cases q) (r_ends) ?_
  try refine R_top (y := nI _) (by assumption) ?_
  exact R_iret rfl rfl (by first | trivial | exact Or.inl rfl | exact Or.inr rfl | assumption) ⟨rfl, rfl⟩
theorem r_short24 {d : Nat} {M : Mem} {a w p f q b s : Nat} (ha : M 10 0 = nI a) (hw : M 5 0 = nI w) (haw : a < w) (hw2 : w ≤ 2000) (hB : M 4 a = nI b) (hb2 : b ≤ 15) (hp : M 14 0 = nI p) (hp1 : p ≤ 1000) (hf : M 22 0 = nI f) (hf0 : 0 < f) (hf1 : f ≤ 200) (hq : M 15 (f - 1) = nI q) (hqp : q ≤ p) (ho : M 2 a = nI 24) (hsh : p - q < wnt 24 b) : CalR (d + 2) j_X9_oneStep [.ref 0] M (some (.int (nI 5))) (up2 M 9 0 (nI 5)) := by
  have hsh : p - q < 1 := hsh
  have hwn : nI (wnt 24 b) = nI (1) := rfl
  refine CalR_of (md := md_X9_oneStep) (d := d + 1) rfl (Nat.le_of_ble_eq_true rfl) ?_
  show WR (CalR (d + 1)) t_X9_oneStep 9 (some .int) _ 0 [(0, .ref 0)] [] _
  refine R_aload_n rfl rfl ?_
  refine R_getI rfl rfl (Or.inl rfl) ?_
  try refine R_top (y := nI _) (by assumption) ?_
  refine R_aload_n rfl rfl ?_
  refine R_getI rfl rfl (Or.inl rfl) ?_
  try refine R_top (y := nI _) (by assumption) ?_
  refine R_icF rfl (by first | assumption | exact icF (by decide) | exact ic_F (by omega) (by omega) (by simp only [icN, not_true_eq_false, not_false_eq_true] <;> omega) | exact ic_F0 (by omega) (by simp only [icN, not_true_eq_false, not_false_eq_true] <;> omega)) ?_
  refine R_aload_n rfl rfl ?_
  refine R_getA rfl rfl (Or.inl rfl) ?_
  refine R_aload_n rfl rfl ?_
  refine R_getI rfl rfl (Or.inl rfl) ?_
  try refine R_top (y := nI _) (by assumption) ?_
  refine R_iald rfl rfl rfl (show _ < 2000 from by omega) ?_
  try refine R_top (y := nI _) (by assumption) ?_
  refine R_ifT (pc' := 39) rfl rfl (by first | assumption | exact icT (by decide) | exact ic_T (by omega) (by omega) (by simp only [icN, not_true_eq_false, not_false_eq_true] <;> omega) | exact ic_T0 (by omega) (by simp only [icN, not_true_eq_false, not_false_eq_true] <;> omega)) ?_
  refine R_aload_n rfl rfl ?_
  refine R_getA rfl rfl (Or.inl rfl) ?_
  refine R_aload_n rfl rfl ?_
  refine R_getI rfl rfl (Or.inl rfl) ?_
  try refine R_top (y := nI _) (by assumption) ?_
  refine R_iald rfl rfl rfl (show _ < 2000 from by omega) ?_
  try refine R_top (y := nI _) (by assumption) ?_
  refine R_istore_n (lv' := [(1, _), (0, _)]) rfl rfl ?_
  refine R_aload_n rfl rfl ?_
  refine R_getA rfl rfl (Or.inl rfl) ?_
  refine R_aload_n rfl rfl ?_
  refine R_getI rfl rfl (Or.inl rfl) ?_
  try refine R_top (y := nI _) (by assumption) ?_
  refine R_iald rfl rfl rfl (show _ < 2000 from by omega) ?_
  try refine R_top (y := nI _) (by assumption) ?_
  refine R_istore_n (lv' := [(2, _), (1, _), (0, _)]) rfl rfl ?_
  refine R_aload_n rfl rfl ?_
  refine R_getI rfl rfl (Or.inl rfl) ?_
  try refine R_top (y := nI _) (by assumption) ?_
  refine R_aload_n rfl rfl ?_
  refine R_getA rfl rfl (Or.inl rfl) ?_
  refine R_aload_n rfl rfl ?_
  refine R_getI rfl rfl (Or.inl rfl) ?_
  try refine R_top (y := nI _) (by assumption) ?_
  refine R_iconst (y := nI 1) rfl (by decide) ?_
  first | refine R_isubN rfl (by omega) ?_ | refine R_isub rfl ?_
  refine R_iald rfl rfl rfl (show _ < 200 from by omega) ?_
  try refine R_top (y := nI _) (by assumption) ?_
  first | refine R_isubN rfl (by omega) ?_ | refine R_isub rfl ?_
  refine R_iload_n rfl rfl ?_
  refine R_aload_n rfl rfl ?_
  refine R_getA rfl rfl (Or.inl rfl) ?_
  refine R_aload_n rfl rfl ?_
  refine R_getI rfl rfl (Or.inl rfl) ?_
  try refine R_top (y := nI _) (by assumption) ?_
  refine R_iald rfl rfl rfl (show _ < 2000 from by omega) ?_
  try refine R_top (y := nI _) (by assumption) ?_
  refine R_stat rfl rfl rfl (Nat.le_of_ble_eq_true rfl) rfl rfl (Nat.le_of_ble_eq_true rfl) (fun _ q => by cases q) (r_wants24) ?_
  try refine R_top (y := nI _) (by assumption) ?_
  refine R_icF rfl (by first | assumption | exact icF (by decide) | exact ic_F (by omega) (by omega) (by simp only [icN, not_true_eq_false, not_false_eq_true] <;> omega) | exact ic_F0 (by omega) (by simp only [icN, not_true_eq_false, not_false_eq_true] <;> omega)) ?_
  refine R_aload_n rfl rfl ?_
  refine R_iconst (y := nI 5) rfl (by decide) ?_
  refine R_virt rfl rfl rfl rfl rfl rfl rfl (Nat.le_of_ble_eq_true rfl) (fun _ q => by cases q) (r_ends) ?_
  try refine R_top (y := nI _) (by assumption) ?_
  exact R_iret rfl rfl (by first | trivial | exact Or.inl rfl | exact Or.inr rfl | assumption) ⟨rfl, rfl⟩
theorem r_short25 {d : Nat} {M : Mem} {a w p f q b s : Nat} (ha : M 10 0 = nI a) (hw : M 5 0 = nI w) (haw : a < w) (hw2 : w ≤ 2000) (hB : M 4 a = nI b) (hb2 : b ≤ 15) (hp : M 14 0 = nI p) (hp1 : p ≤ 1000) (hf : M 22 0 = nI f) (hf0 : 0 < f) (hf1 : f ≤ 200) (hq : M 15 (f - 1) = nI q) (hqp : q ≤ p) (ho : M 2 a = nI 25) (hsh : p - q < wnt 25 b) : CalR (d + 2) j_X9_oneStep [.ref 0] M (some (.int (nI 5))) (up2 M 9 0 (nI 5)) := by
  have hsh : p - q < 1 := hsh
  have hwn : nI (wnt 25 b) = nI (1) := rfl
  refine CalR_of (md := md_X9_oneStep) (d := d + 1) rfl (Nat.le_of_ble_eq_true rfl) ?_
  show WR (CalR (d + 1)) t_X9_oneStep 9 (some .int) _ 0 [(0, .ref 0)] [] _
  refine R_aload_n rfl rfl ?_
  refine R_getI rfl rfl (Or.inl rfl) ?_
  try refine R_top (y := nI _) (by assumption) ?_
  refine R_aload_n rfl rfl ?_
  refine R_getI rfl rfl (Or.inl rfl) ?_
  try refine R_top (y := nI _) (by assumption) ?_
  refine R_icF rfl (by first | assumption | exact icF (by decide) | exact ic_F (by omega) (by omega) (by simp only [icN, not_true_eq_false, not_false_eq_true] <;> omega) | exact ic_F0 (by omega) (by simp only [icN, not_true_eq_false, not_false_eq_true] <;> omega)) ?_
  refine R_aload_n rfl rfl ?_
  refine R_getA rfl rfl (Or.inl rfl) ?_
  refine R_aload_n rfl rfl ?_
  refine R_getI rfl rfl (Or.inl rfl) ?_
  try refine R_top (y := nI _) (by assumption) ?_
  refine R_iald rfl rfl rfl (show _ < 2000 from by omega) ?_
  try refine R_top (y := nI _) (by assumption) ?_
  refine R_ifT (pc' := 39) rfl rfl (by first | assumption | exact icT (by decide) | exact ic_T (by omega) (by omega) (by simp only [icN, not_true_eq_false, not_false_eq_true] <;> omega) | exact ic_T0 (by omega) (by simp only [icN, not_true_eq_false, not_false_eq_true] <;> omega)) ?_
  refine R_aload_n rfl rfl ?_
  refine R_getA rfl rfl (Or.inl rfl) ?_
  refine R_aload_n rfl rfl ?_
  refine R_getI rfl rfl (Or.inl rfl) ?_
  try refine R_top (y := nI _) (by assumption) ?_
  refine R_iald rfl rfl rfl (show _ < 2000 from by omega) ?_
  try refine R_top (y := nI _) (by assumption) ?_
  refine R_istore_n (lv' := [(1, _), (0, _)]) rfl rfl ?_
  refine R_aload_n rfl rfl ?_
  refine R_getA rfl rfl (Or.inl rfl) ?_
  refine R_aload_n rfl rfl ?_
  refine R_getI rfl rfl (Or.inl rfl) ?_
  try refine R_top (y := nI _) (by assumption) ?_
  refine R_iald rfl rfl rfl (show _ < 2000 from by omega) ?_
  try refine R_top (y := nI _) (by assumption) ?_
  refine R_istore_n (lv' := [(2, _), (1, _), (0, _)]) rfl rfl ?_
  refine R_aload_n rfl rfl ?_
  refine R_getI rfl rfl (Or.inl rfl) ?_
  try refine R_top (y := nI _) (by assumption) ?_
  refine R_aload_n rfl rfl ?_
  refine R_getA rfl rfl (Or.inl rfl) ?_
  refine R_aload_n rfl rfl ?_
  refine R_getI rfl rfl (Or.inl rfl) ?_
  try refine R_top (y := nI _) (by assumption) ?_
  refine R_iconst (y := nI 1) rfl (by decide) ?_
  first | refine R_isubN rfl (by omega) ?_ | refine R_isub rfl ?_
  refine R_iald rfl rfl rfl (show _ < 200 from by omega) ?_
  try refine R_top (y := nI _) (by assumption) ?_
  first | refine R_isubN rfl (by omega) ?_ | refine R_isub rfl ?_
  refine R_iload_n rfl rfl ?_
  refine R_aload_n rfl rfl ?_
  refine R_getA rfl rfl (Or.inl rfl) ?_
  refine R_aload_n rfl rfl ?_
  refine R_getI rfl rfl (Or.inl rfl) ?_
  try refine R_top (y := nI _) (by assumption) ?_
  refine R_iald rfl rfl rfl (show _ < 2000 from by omega) ?_
  try refine R_top (y := nI _) (by assumption) ?_
  refine R_stat rfl rfl rfl (Nat.le_of_ble_eq_true rfl) rfl rfl (Nat.le_of_ble_eq_true rfl) (fun _ q => by cases q) (r_wants25) ?_
  try refine R_top (y := nI _) (by assumption) ?_
  refine R_icF rfl (by first | assumption | exact icF (by decide) | exact ic_F (by omega) (by omega) (by simp only [icN, not_true_eq_false, not_false_eq_true] <;> omega) | exact ic_F0 (by omega) (by simp only [icN, not_true_eq_false, not_false_eq_true] <;> omega)) ?_
  refine R_aload_n rfl rfl ?_
  refine R_iconst (y := nI 5) rfl (by decide) ?_
  refine R_virt rfl rfl rfl rfl rfl rfl rfl (Nat.le_of_ble_eq_true rfl) (fun _ q => by cases q) (r_ends) ?_
  try refine R_top (y := nI _) (by assumption) ?_
  exact R_iret rfl rfl (by first | trivial | exact Or.inl rfl | exact Or.inr rfl | assumption) ⟨rfl, rfl⟩
theorem r_short26 {d : Nat} {M : Mem} {a w p f q b s : Nat} (ha : M 10 0 = nI a) (hw : M 5 0 = nI w) (haw : a < w) (hw2 : w ≤ 2000) (hB : M 4 a = nI b) (hb2 : b ≤ 15) (hp : M 14 0 = nI p) (hp1 : p ≤ 1000) (hf : M 22 0 = nI f) (hf0 : 0 < f) (hf1 : f ≤ 200) (hq : M 15 (f - 1) = nI q) (hqp : q ≤ p) (ho : M 2 a = nI 26) (hsh : p - q < wnt 26 b) : CalR (d + 2) j_X9_oneStep [.ref 0] M (some (.int (nI 5))) (up2 M 9 0 (nI 5)) := by
  have hsh : p - q < 2 := hsh
  have hwn : nI (wnt 26 b) = nI (2) := rfl
  refine CalR_of (md := md_X9_oneStep) (d := d + 1) rfl (Nat.le_of_ble_eq_true rfl) ?_
  show WR (CalR (d + 1)) t_X9_oneStep 9 (some .int) _ 0 [(0, .ref 0)] [] _
  refine R_aload_n rfl rfl ?_
  refine R_getI rfl rfl (Or.inl rfl) ?_
  try refine R_top (y := nI _) (by assumption) ?_
  refine R_aload_n rfl rfl ?_
  refine R_getI rfl rfl (Or.inl rfl) ?_
  try refine R_top (y := nI _) (by assumption) ?_
  refine R_icF rfl (by first | assumption | exact icF (by decide) | exact ic_F (by omega) (by omega) (by simp only [icN, not_true_eq_false, not_false_eq_true] <;> omega) | exact ic_F0 (by omega) (by simp only [icN, not_true_eq_false, not_false_eq_true] <;> omega)) ?_
  refine R_aload_n rfl rfl ?_
  refine R_getA rfl rfl (Or.inl rfl) ?_
  refine R_aload_n rfl rfl ?_
  refine R_getI rfl rfl (Or.inl rfl) ?_
  try refine R_top (y := nI _) (by assumption) ?_
  refine R_iald rfl rfl rfl (show _ < 2000 from by omega) ?_
  try refine R_top (y := nI _) (by assumption) ?_
  refine R_ifT (pc' := 39) rfl rfl (by first | assumption | exact icT (by decide) | exact ic_T (by omega) (by omega) (by simp only [icN, not_true_eq_false, not_false_eq_true] <;> omega) | exact ic_T0 (by omega) (by simp only [icN, not_true_eq_false, not_false_eq_true] <;> omega)) ?_
  refine R_aload_n rfl rfl ?_
  refine R_getA rfl rfl (Or.inl rfl) ?_
  refine R_aload_n rfl rfl ?_
  refine R_getI rfl rfl (Or.inl rfl) ?_
  try refine R_top (y := nI _) (by assumption) ?_
  refine R_iald rfl rfl rfl (show _ < 2000 from by omega) ?_
  try refine R_top (y := nI _) (by assumption) ?_
  refine R_istore_n (lv' := [(1, _), (0, _)]) rfl rfl ?_
  refine R_aload_n rfl rfl ?_
  refine R_getA rfl rfl (Or.inl rfl) ?_
  refine R_aload_n rfl rfl ?_
  refine R_getI rfl rfl (Or.inl rfl) ?_
  try refine R_top (y := nI _) (by assumption) ?_
  refine R_iald rfl rfl rfl (show _ < 2000 from by omega) ?_
  try refine R_top (y := nI _) (by assumption) ?_
  refine R_istore_n (lv' := [(2, _), (1, _), (0, _)]) rfl rfl ?_
  refine R_aload_n rfl rfl ?_
  refine R_getI rfl rfl (Or.inl rfl) ?_
  try refine R_top (y := nI _) (by assumption) ?_
  refine R_aload_n rfl rfl ?_
  refine R_getA rfl rfl (Or.inl rfl) ?_
  refine R_aload_n rfl rfl ?_
  refine R_getI rfl rfl (Or.inl rfl) ?_
  try refine R_top (y := nI _) (by assumption) ?_
  refine R_iconst (y := nI 1) rfl (by decide) ?_
  first | refine R_isubN rfl (by omega) ?_ | refine R_isub rfl ?_
  refine R_iald rfl rfl rfl (show _ < 200 from by omega) ?_
  try refine R_top (y := nI _) (by assumption) ?_
  first | refine R_isubN rfl (by omega) ?_ | refine R_isub rfl ?_
  refine R_iload_n rfl rfl ?_
  refine R_aload_n rfl rfl ?_
  refine R_getA rfl rfl (Or.inl rfl) ?_
  refine R_aload_n rfl rfl ?_
  refine R_getI rfl rfl (Or.inl rfl) ?_
  try refine R_top (y := nI _) (by assumption) ?_
  refine R_iald rfl rfl rfl (show _ < 2000 from by omega) ?_
  try refine R_top (y := nI _) (by assumption) ?_
  refine R_stat rfl rfl rfl (Nat.le_of_ble_eq_true rfl) rfl rfl (Nat.le_of_ble_eq_true rfl) (fun _ q => by cases q) (r_wants26) ?_
  try refine R_top (y := nI _) (by assumption) ?_
  refine R_icF rfl (by first | assumption | exact icF (by decide) | exact ic_F (by omega) (by omega) (by simp only [icN, not_true_eq_false, not_false_eq_true] <;> omega) | exact ic_F0 (by omega) (by simp only [icN, not_true_eq_false, not_false_eq_true] <;> omega)) ?_
  refine R_aload_n rfl rfl ?_
  refine R_iconst (y := nI 5) rfl (by decide) ?_
  refine R_virt rfl rfl rfl rfl rfl rfl rfl (Nat.le_of_ble_eq_true rfl) (fun _ q => by cases q) (r_ends) ?_
  try refine R_top (y := nI _) (by assumption) ?_
  exact R_iret rfl rfl (by first | trivial | exact Or.inl rfl | exact Or.inr rfl | assumption) ⟨rfl, rfl⟩
theorem r_short27 {d : Nat} {M : Mem} {a w p f q b s : Nat} (ha : M 10 0 = nI a) (hw : M 5 0 = nI w) (haw : a < w) (hw2 : w ≤ 2000) (hB : M 4 a = nI b) (hb2 : b ≤ 15) (hp : M 14 0 = nI p) (hp1 : p ≤ 1000) (hf : M 22 0 = nI f) (hf0 : 0 < f) (hf1 : f ≤ 200) (hq : M 15 (f - 1) = nI q) (hqp : q ≤ p) (ho : M 2 a = nI 27) (hsh : p - q < wnt 27 b) : CalR (d + 2) j_X9_oneStep [.ref 0] M (some (.int (nI 5))) (up2 M 9 0 (nI 5)) := by
  have hsh : p - q < 1 := hsh
  have hwn : nI (wnt 27 b) = nI (1) := rfl
  refine CalR_of (md := md_X9_oneStep) (d := d + 1) rfl (Nat.le_of_ble_eq_true rfl) ?_
  show WR (CalR (d + 1)) t_X9_oneStep 9 (some .int) _ 0 [(0, .ref 0)] [] _
  refine R_aload_n rfl rfl ?_
  refine R_getI rfl rfl (Or.inl rfl) ?_
  try refine R_top (y := nI _) (by assumption) ?_
  refine R_aload_n rfl rfl ?_
  refine R_getI rfl rfl (Or.inl rfl) ?_
  try refine R_top (y := nI _) (by assumption) ?_
  refine R_icF rfl (by first | assumption | exact icF (by decide) | exact ic_F (by omega) (by omega) (by simp only [icN, not_true_eq_false, not_false_eq_true] <;> omega) | exact ic_F0 (by omega) (by simp only [icN, not_true_eq_false, not_false_eq_true] <;> omega)) ?_
  refine R_aload_n rfl rfl ?_
  refine R_getA rfl rfl (Or.inl rfl) ?_
  refine R_aload_n rfl rfl ?_
  refine R_getI rfl rfl (Or.inl rfl) ?_
  try refine R_top (y := nI _) (by assumption) ?_
  refine R_iald rfl rfl rfl (show _ < 2000 from by omega) ?_
  try refine R_top (y := nI _) (by assumption) ?_
  refine R_ifT (pc' := 39) rfl rfl (by first | assumption | exact icT (by decide) | exact ic_T (by omega) (by omega) (by simp only [icN, not_true_eq_false, not_false_eq_true] <;> omega) | exact ic_T0 (by omega) (by simp only [icN, not_true_eq_false, not_false_eq_true] <;> omega)) ?_
  refine R_aload_n rfl rfl ?_
  refine R_getA rfl rfl (Or.inl rfl) ?_
  refine R_aload_n rfl rfl ?_
  refine R_getI rfl rfl (Or.inl rfl) ?_
  try refine R_top (y := nI _) (by assumption) ?_
  refine R_iald rfl rfl rfl (show _ < 2000 from by omega) ?_
  try refine R_top (y := nI _) (by assumption) ?_
  refine R_istore_n (lv' := [(1, _), (0, _)]) rfl rfl ?_
  refine R_aload_n rfl rfl ?_
  refine R_getA rfl rfl (Or.inl rfl) ?_
  refine R_aload_n rfl rfl ?_
  refine R_getI rfl rfl (Or.inl rfl) ?_
  try refine R_top (y := nI _) (by assumption) ?_
  refine R_iald rfl rfl rfl (show _ < 2000 from by omega) ?_
  try refine R_top (y := nI _) (by assumption) ?_
  refine R_istore_n (lv' := [(2, _), (1, _), (0, _)]) rfl rfl ?_
  refine R_aload_n rfl rfl ?_
  refine R_getI rfl rfl (Or.inl rfl) ?_
  try refine R_top (y := nI _) (by assumption) ?_
  refine R_aload_n rfl rfl ?_
  refine R_getA rfl rfl (Or.inl rfl) ?_
  refine R_aload_n rfl rfl ?_
  refine R_getI rfl rfl (Or.inl rfl) ?_
  try refine R_top (y := nI _) (by assumption) ?_
  refine R_iconst (y := nI 1) rfl (by decide) ?_
  first | refine R_isubN rfl (by omega) ?_ | refine R_isub rfl ?_
  refine R_iald rfl rfl rfl (show _ < 200 from by omega) ?_
  try refine R_top (y := nI _) (by assumption) ?_
  first | refine R_isubN rfl (by omega) ?_ | refine R_isub rfl ?_
  refine R_iload_n rfl rfl ?_
  refine R_aload_n rfl rfl ?_
  refine R_getA rfl rfl (Or.inl rfl) ?_
  refine R_aload_n rfl rfl ?_
  refine R_getI rfl rfl (Or.inl rfl) ?_
  try refine R_top (y := nI _) (by assumption) ?_
  refine R_iald rfl rfl rfl (show _ < 2000 from by omega) ?_
  try refine R_top (y := nI _) (by assumption) ?_
  refine R_stat rfl rfl rfl (Nat.le_of_ble_eq_true rfl) rfl rfl (Nat.le_of_ble_eq_true rfl) (fun _ q => by cases q) (r_wants27) ?_
  try refine R_top (y := nI _) (by assumption) ?_
  refine R_icF rfl (by first | assumption | exact icF (by decide) | exact ic_F (by omega) (by omega) (by simp only [icN, not_true_eq_false, not_false_eq_true] <;> omega) | exact ic_F0 (by omega) (by simp only [icN, not_true_eq_false, not_false_eq_true] <;> omega)) ?_
  refine R_aload_n rfl rfl ?_
  refine R_iconst (y := nI 5) rfl (by decide) ?_
  refine R_virt rfl rfl rfl rfl rfl rfl rfl (Nat.le_of_ble_eq_true rfl) (fun _ q => by cases q) (r_ends) ?_
  try refine R_top (y := nI _) (by assumption) ?_
  exact R_iret rfl rfl (by first | trivial | exact Or.inl rfl | exact Or.inr rfl | assumption) ⟨rfl, rfl⟩
theorem r_short29 {d : Nat} {M : Mem} {a w p f q b s : Nat} (ha : M 10 0 = nI a) (hw : M 5 0 = nI w) (haw : a < w) (hw2 : w ≤ 2000) (hB : M 4 a = nI b) (hb2 : b ≤ 15) (hp : M 14 0 = nI p) (hp1 : p ≤ 1000) (hf : M 22 0 = nI f) (hf0 : 0 < f) (hf1 : f ≤ 200) (hq : M 15 (f - 1) = nI q) (hqp : q ≤ p) (ho : M 2 a = nI 29) (hsh : p - q < wnt 29 b) : CalR (d + 2) j_X9_oneStep [.ref 0] M (some (.int (nI 5))) (up2 M 9 0 (nI 5)) := by
  have hsh : p - q < b + 1 := hsh
  have hwn : nI (wnt 29 b) = nI (b + 1) := rfl
  refine CalR_of (md := md_X9_oneStep) (d := d + 1) rfl (Nat.le_of_ble_eq_true rfl) ?_
  show WR (CalR (d + 1)) t_X9_oneStep 9 (some .int) _ 0 [(0, .ref 0)] [] _
  refine R_aload_n rfl rfl ?_
  refine R_getI rfl rfl (Or.inl rfl) ?_
  try refine R_top (y := nI _) (by assumption) ?_
  refine R_aload_n rfl rfl ?_
  refine R_getI rfl rfl (Or.inl rfl) ?_
  try refine R_top (y := nI _) (by assumption) ?_
  refine R_icF rfl (by first | assumption | exact icF (by decide) | exact ic_F (by omega) (by omega) (by simp only [icN, not_true_eq_false, not_false_eq_true] <;> omega) | exact ic_F0 (by omega) (by simp only [icN, not_true_eq_false, not_false_eq_true] <;> omega)) ?_
  refine R_aload_n rfl rfl ?_
  refine R_getA rfl rfl (Or.inl rfl) ?_
  refine R_aload_n rfl rfl ?_
  refine R_getI rfl rfl (Or.inl rfl) ?_
  try refine R_top (y := nI _) (by assumption) ?_
  refine R_iald rfl rfl rfl (show _ < 2000 from by omega) ?_
  try refine R_top (y := nI _) (by assumption) ?_
  refine R_ifT (pc' := 39) rfl rfl (by first | assumption | exact icT (by decide) | exact ic_T (by omega) (by omega) (by simp only [icN, not_true_eq_false, not_false_eq_true] <;> omega) | exact ic_T0 (by omega) (by simp only [icN, not_true_eq_false, not_false_eq_true] <;> omega)) ?_
  refine R_aload_n rfl rfl ?_
  refine R_getA rfl rfl (Or.inl rfl) ?_
  refine R_aload_n rfl rfl ?_
  refine R_getI rfl rfl (Or.inl rfl) ?_
  try refine R_top (y := nI _) (by assumption) ?_
  refine R_iald rfl rfl rfl (show _ < 2000 from by omega) ?_
  try refine R_top (y := nI _) (by assumption) ?_
  refine R_istore_n (lv' := [(1, _), (0, _)]) rfl rfl ?_
  refine R_aload_n rfl rfl ?_
  refine R_getA rfl rfl (Or.inl rfl) ?_
  refine R_aload_n rfl rfl ?_
  refine R_getI rfl rfl (Or.inl rfl) ?_
  try refine R_top (y := nI _) (by assumption) ?_
  refine R_iald rfl rfl rfl (show _ < 2000 from by omega) ?_
  try refine R_top (y := nI _) (by assumption) ?_
  refine R_istore_n (lv' := [(2, _), (1, _), (0, _)]) rfl rfl ?_
  refine R_aload_n rfl rfl ?_
  refine R_getI rfl rfl (Or.inl rfl) ?_
  try refine R_top (y := nI _) (by assumption) ?_
  refine R_aload_n rfl rfl ?_
  refine R_getA rfl rfl (Or.inl rfl) ?_
  refine R_aload_n rfl rfl ?_
  refine R_getI rfl rfl (Or.inl rfl) ?_
  try refine R_top (y := nI _) (by assumption) ?_
  refine R_iconst (y := nI 1) rfl (by decide) ?_
  first | refine R_isubN rfl (by omega) ?_ | refine R_isub rfl ?_
  refine R_iald rfl rfl rfl (show _ < 200 from by omega) ?_
  try refine R_top (y := nI _) (by assumption) ?_
  first | refine R_isubN rfl (by omega) ?_ | refine R_isub rfl ?_
  refine R_iload_n rfl rfl ?_
  refine R_aload_n rfl rfl ?_
  refine R_getA rfl rfl (Or.inl rfl) ?_
  refine R_aload_n rfl rfl ?_
  refine R_getI rfl rfl (Or.inl rfl) ?_
  try refine R_top (y := nI _) (by assumption) ?_
  refine R_iald rfl rfl rfl (show _ < 2000 from by omega) ?_
  try refine R_top (y := nI _) (by assumption) ?_
  refine R_stat rfl rfl rfl (Nat.le_of_ble_eq_true rfl) rfl rfl (Nat.le_of_ble_eq_true rfl) (fun _ q => by cases q) (r_wants29) ?_
  try refine R_top (y := nI _) (by assumption) ?_
  refine R_icF rfl (by first | assumption | exact icF (by decide) | exact ic_F (by omega) (by omega) (by simp only [icN, not_true_eq_false, not_false_eq_true] <;> omega) | exact ic_F0 (by omega) (by simp only [icN, not_true_eq_false, not_false_eq_true] <;> omega)) ?_
  refine R_aload_n rfl rfl ?_
  refine R_iconst (y := nI 5) rfl (by decide) ?_
  refine R_virt rfl rfl rfl rfl rfl rfl rfl (Nat.le_of_ble_eq_true rfl) (fun _ q => by cases q) (r_ends) ?_
  try refine R_top (y := nI _) (by assumption) ?_
  exact R_iret rfl rfl (by first | trivial | exact Or.inl rfl | exact Or.inr rfl | assumption) ⟨rfl, rfl⟩
theorem r_short31 {d : Nat} {M : Mem} {a w p f q b s : Nat} (ha : M 10 0 = nI a) (hw : M 5 0 = nI w) (haw : a < w) (hw2 : w ≤ 2000) (hB : M 4 a = nI b) (hb2 : b ≤ 15) (hp : M 14 0 = nI p) (hp1 : p ≤ 1000) (hf : M 22 0 = nI f) (hf0 : 0 < f) (hf1 : f ≤ 200) (hq : M 15 (f - 1) = nI q) (hqp : q ≤ p) (ho : M 2 a = nI 31) (hsh : p - q < wnt 31 b) : CalR (d + 2) j_X9_oneStep [.ref 0] M (some (.int (nI 5))) (up2 M 9 0 (nI 5)) := by
  have hsh : p - q < 1 := hsh
  have hwn : nI (wnt 31 b) = nI (1) := rfl
  refine CalR_of (md := md_X9_oneStep) (d := d + 1) rfl (Nat.le_of_ble_eq_true rfl) ?_
  show WR (CalR (d + 1)) t_X9_oneStep 9 (some .int) _ 0 [(0, .ref 0)] [] _
  refine R_aload_n rfl rfl ?_
  refine R_getI rfl rfl (Or.inl rfl) ?_
  try refine R_top (y := nI _) (by assumption) ?_
  refine R_aload_n rfl rfl ?_
  refine R_getI rfl rfl (Or.inl rfl) ?_
  try refine R_top (y := nI _) (by assumption) ?_
  refine R_icF rfl (by first | assumption | exact icF (by decide) | exact ic_F (by omega) (by omega) (by simp only [icN, not_true_eq_false, not_false_eq_true] <;> omega) | exact ic_F0 (by omega) (by simp only [icN, not_true_eq_false, not_false_eq_true] <;> omega)) ?_
  refine R_aload_n rfl rfl ?_
  refine R_getA rfl rfl (Or.inl rfl) ?_
  refine R_aload_n rfl rfl ?_
  refine R_getI rfl rfl (Or.inl rfl) ?_
  try refine R_top (y := nI _) (by assumption) ?_
  refine R_iald rfl rfl rfl (show _ < 2000 from by omega) ?_
  try refine R_top (y := nI _) (by assumption) ?_
  refine R_ifT (pc' := 39) rfl rfl (by first | assumption | exact icT (by decide) | exact ic_T (by omega) (by omega) (by simp only [icN, not_true_eq_false, not_false_eq_true] <;> omega) | exact ic_T0 (by omega) (by simp only [icN, not_true_eq_false, not_false_eq_true] <;> omega)) ?_
  refine R_aload_n rfl rfl ?_
  refine R_getA rfl rfl (Or.inl rfl) ?_
  refine R_aload_n rfl rfl ?_
  refine R_getI rfl rfl (Or.inl rfl) ?_
  try refine R_top (y := nI _) (by assumption) ?_
  refine R_iald rfl rfl rfl (show _ < 2000 from by omega) ?_
  try refine R_top (y := nI _) (by assumption) ?_
  refine R_istore_n (lv' := [(1, _), (0, _)]) rfl rfl ?_
  refine R_aload_n rfl rfl ?_
  refine R_getA rfl rfl (Or.inl rfl) ?_
  refine R_aload_n rfl rfl ?_
  refine R_getI rfl rfl (Or.inl rfl) ?_
  try refine R_top (y := nI _) (by assumption) ?_
  refine R_iald rfl rfl rfl (show _ < 2000 from by omega) ?_
  try refine R_top (y := nI _) (by assumption) ?_
  refine R_istore_n (lv' := [(2, _), (1, _), (0, _)]) rfl rfl ?_
  refine R_aload_n rfl rfl ?_
  refine R_getI rfl rfl (Or.inl rfl) ?_
  try refine R_top (y := nI _) (by assumption) ?_
  refine R_aload_n rfl rfl ?_
  refine R_getA rfl rfl (Or.inl rfl) ?_
  refine R_aload_n rfl rfl ?_
  refine R_getI rfl rfl (Or.inl rfl) ?_
  try refine R_top (y := nI _) (by assumption) ?_
  refine R_iconst (y := nI 1) rfl (by decide) ?_
  first | refine R_isubN rfl (by omega) ?_ | refine R_isub rfl ?_
  refine R_iald rfl rfl rfl (show _ < 200 from by omega) ?_
  try refine R_top (y := nI _) (by assumption) ?_
  first | refine R_isubN rfl (by omega) ?_ | refine R_isub rfl ?_
  refine R_iload_n rfl rfl ?_
  refine R_aload_n rfl rfl ?_
  refine R_getA rfl rfl (Or.inl rfl) ?_
  refine R_aload_n rfl rfl ?_
  refine R_getI rfl rfl (Or.inl rfl) ?_
  try refine R_top (y := nI _) (by assumption) ?_
  refine R_iald rfl rfl rfl (show _ < 2000 from by omega) ?_
  try refine R_top (y := nI _) (by assumption) ?_
  refine R_stat rfl rfl rfl (Nat.le_of_ble_eq_true rfl) rfl rfl (Nat.le_of_ble_eq_true rfl) (fun _ q => by cases q) (r_wants31) ?_
  try refine R_top (y := nI _) (by assumption) ?_
  refine R_icF rfl (by first | assumption | exact icF (by decide) | exact ic_F (by omega) (by omega) (by simp only [icN, not_true_eq_false, not_false_eq_true] <;> omega) | exact ic_F0 (by omega) (by simp only [icN, not_true_eq_false, not_false_eq_true] <;> omega)) ?_
  refine R_aload_n rfl rfl ?_
  refine R_iconst (y := nI 5) rfl (by decide) ?_
  refine R_virt rfl rfl rfl rfl rfl rfl rfl (Nat.le_of_ble_eq_true rfl) (fun _ q => by cases q) (r_ends) ?_
  try refine R_top (y := nI _) (by assumption) ?_
  exact R_iret rfl rfl (by first | trivial | exact Or.inl rfl | exact Or.inr rfl | assumption) ⟨rfl, rfl⟩
theorem r_short32 {d : Nat} {M : Mem} {a w p f q b s : Nat} (ha : M 10 0 = nI a) (hw : M 5 0 = nI w) (haw : a < w) (hw2 : w ≤ 2000) (hB : M 4 a = nI b) (hb2 : b ≤ 15) (hp : M 14 0 = nI p) (hp1 : p ≤ 1000) (hf : M 22 0 = nI f) (hf0 : 0 < f) (hf1 : f ≤ 200) (hq : M 15 (f - 1) = nI q) (hqp : q ≤ p) (ho : M 2 a = nI 32) (hsh : p - q < wnt 32 b) : CalR (d + 2) j_X9_oneStep [.ref 0] M (some (.int (nI 5))) (up2 M 9 0 (nI 5)) := by
  have hsh : p - q < 1 := hsh
  have hwn : nI (wnt 32 b) = nI (1) := rfl
  refine CalR_of (md := md_X9_oneStep) (d := d + 1) rfl (Nat.le_of_ble_eq_true rfl) ?_
  show WR (CalR (d + 1)) t_X9_oneStep 9 (some .int) _ 0 [(0, .ref 0)] [] _
  refine R_aload_n rfl rfl ?_
  refine R_getI rfl rfl (Or.inl rfl) ?_
  try refine R_top (y := nI _) (by assumption) ?_
  refine R_aload_n rfl rfl ?_
  refine R_getI rfl rfl (Or.inl rfl) ?_
  try refine R_top (y := nI _) (by assumption) ?_
  refine R_icF rfl (by first | assumption | exact icF (by decide) | exact ic_F (by omega) (by omega) (by simp only [icN, not_true_eq_false, not_false_eq_true] <;> omega) | exact ic_F0 (by omega) (by simp only [icN, not_true_eq_false, not_false_eq_true] <;> omega)) ?_
  refine R_aload_n rfl rfl ?_
  refine R_getA rfl rfl (Or.inl rfl) ?_
  refine R_aload_n rfl rfl ?_
  refine R_getI rfl rfl (Or.inl rfl) ?_
  try refine R_top (y := nI _) (by assumption) ?_
  refine R_iald rfl rfl rfl (show _ < 2000 from by omega) ?_
  try refine R_top (y := nI _) (by assumption) ?_
  refine R_ifT (pc' := 39) rfl rfl (by first | assumption | exact icT (by decide) | exact ic_T (by omega) (by omega) (by simp only [icN, not_true_eq_false, not_false_eq_true] <;> omega) | exact ic_T0 (by omega) (by simp only [icN, not_true_eq_false, not_false_eq_true] <;> omega)) ?_
  refine R_aload_n rfl rfl ?_
  refine R_getA rfl rfl (Or.inl rfl) ?_
  refine R_aload_n rfl rfl ?_
  refine R_getI rfl rfl (Or.inl rfl) ?_
  try refine R_top (y := nI _) (by assumption) ?_
  refine R_iald rfl rfl rfl (show _ < 2000 from by omega) ?_
  try refine R_top (y := nI _) (by assumption) ?_
  refine R_istore_n (lv' := [(1, _), (0, _)]) rfl rfl ?_
  refine R_aload_n rfl rfl ?_
  refine R_getA rfl rfl (Or.inl rfl) ?_
  refine R_aload_n rfl rfl ?_
  refine R_getI rfl rfl (Or.inl rfl) ?_
  try refine R_top (y := nI _) (by assumption) ?_
  refine R_iald rfl rfl rfl (show _ < 2000 from by omega) ?_
  try refine R_top (y := nI _) (by assumption) ?_
  refine R_istore_n (lv' := [(2, _), (1, _), (0, _)]) rfl rfl ?_
  refine R_aload_n rfl rfl ?_
  refine R_getI rfl rfl (Or.inl rfl) ?_
  try refine R_top (y := nI _) (by assumption) ?_
  refine R_aload_n rfl rfl ?_
  refine R_getA rfl rfl (Or.inl rfl) ?_
  refine R_aload_n rfl rfl ?_
  refine R_getI rfl rfl (Or.inl rfl) ?_
  try refine R_top (y := nI _) (by assumption) ?_
  refine R_iconst (y := nI 1) rfl (by decide) ?_
  first | refine R_isubN rfl (by omega) ?_ | refine R_isub rfl ?_
  refine R_iald rfl rfl rfl (show _ < 200 from by omega) ?_
  try refine R_top (y := nI _) (by assumption) ?_
  first | refine R_isubN rfl (by omega) ?_ | refine R_isub rfl ?_
  refine R_iload_n rfl rfl ?_
  refine R_aload_n rfl rfl ?_
  refine R_getA rfl rfl (Or.inl rfl) ?_
  refine R_aload_n rfl rfl ?_
  refine R_getI rfl rfl (Or.inl rfl) ?_
  try refine R_top (y := nI _) (by assumption) ?_
  refine R_iald rfl rfl rfl (show _ < 2000 from by omega) ?_
  try refine R_top (y := nI _) (by assumption) ?_
  refine R_stat rfl rfl rfl (Nat.le_of_ble_eq_true rfl) rfl rfl (Nat.le_of_ble_eq_true rfl) (fun _ q => by cases q) (r_wants32) ?_
  try refine R_top (y := nI _) (by assumption) ?_
  refine R_icF rfl (by first | assumption | exact icF (by decide) | exact ic_F (by omega) (by omega) (by simp only [icN, not_true_eq_false, not_false_eq_true] <;> omega) | exact ic_F0 (by omega) (by simp only [icN, not_true_eq_false, not_false_eq_true] <;> omega)) ?_
  refine R_aload_n rfl rfl ?_
  refine R_iconst (y := nI 5) rfl (by decide) ?_
  refine R_virt rfl rfl rfl rfl rfl rfl rfl (Nat.le_of_ble_eq_true rfl) (fun _ q => by cases q) (r_ends) ?_
  try refine R_top (y := nI _) (by assumption) ?_
  exact R_iret rfl rfl (by first | trivial | exact Or.inl rfl | exact Or.inr rfl | assumption) ⟨rfl, rfl⟩
theorem r_sim1 {d : Nat} {M : Mem} {a w p f q b s : Nat} (ha : M 10 0 = nI a) (hw : M 5 0 = nI w) (haw : a < w) (hw2 : w ≤ 2000) (hB : M 4 a = nI b) (hb2 : b ≤ 15) (hp : M 14 0 = nI p) (hp1 : p ≤ 1000) (hf : M 22 0 = nI f) (hf0 : 0 < f) (hf1 : f ≤ 200) (hq : M 15 (f - 1) = nI q) (hqp : q ≤ p) (ho : M 2 a = nI 1) (hen : wnt 1 b ≤ p - q) {v : Int32} {M' : Mem} (hX : CalR (d + 6) j_X9_simple [.ref 0, .int (nI 1), .int (M 3 a)] M (some (.int v)) M') : CalR (d + 7) j_X9_oneStep [.ref 0] M (some (.int v)) M' := by
  have hen : 0 ≤ p - q := hen
  have hwn : nI (wnt 1 b) = nI 0 := rfl
  refine CalR_of (md := md_X9_oneStep) (d := d + 6) rfl (Nat.le_of_ble_eq_true rfl) ?_
  show WR (CalR (d + 6)) t_X9_oneStep 9 (some .int) _ 0 [(0, .ref 0)] [] _
  refine R_aload_n rfl rfl ?_
  refine R_getI rfl rfl (Or.inl rfl) ?_
  try refine R_top (y := nI _) (by assumption) ?_
  refine R_aload_n rfl rfl ?_
  refine R_getI rfl rfl (Or.inl rfl) ?_
  try refine R_top (y := nI _) (by assumption) ?_
  refine R_icF rfl (by first | assumption | exact icF (by decide) | exact ic_F (by omega) (by omega) (by simp only [icN, not_true_eq_false, not_false_eq_true] <;> omega) | exact ic_F0 (by omega) (by simp only [icN, not_true_eq_false, not_false_eq_true] <;> omega)) ?_
  refine R_aload_n rfl rfl ?_
  refine R_getA rfl rfl (Or.inl rfl) ?_
  refine R_aload_n rfl rfl ?_
  refine R_getI rfl rfl (Or.inl rfl) ?_
  try refine R_top (y := nI _) (by assumption) ?_
  refine R_iald rfl rfl rfl (show _ < 2000 from by omega) ?_
  try refine R_top (y := nI _) (by assumption) ?_
  refine R_ifT (pc' := 39) rfl rfl (by first | assumption | exact icT (by decide) | exact ic_T (by omega) (by omega) (by simp only [icN, not_true_eq_false, not_false_eq_true] <;> omega) | exact ic_T0 (by omega) (by simp only [icN, not_true_eq_false, not_false_eq_true] <;> omega)) ?_
  refine R_aload_n rfl rfl ?_
  refine R_getA rfl rfl (Or.inl rfl) ?_
  refine R_aload_n rfl rfl ?_
  refine R_getI rfl rfl (Or.inl rfl) ?_
  try refine R_top (y := nI _) (by assumption) ?_
  refine R_iald rfl rfl rfl (show _ < 2000 from by omega) ?_
  try refine R_top (y := nI _) (by assumption) ?_
  refine R_istore_n (lv' := [(1, _), (0, _)]) rfl rfl ?_
  refine R_aload_n rfl rfl ?_
  refine R_getA rfl rfl (Or.inl rfl) ?_
  refine R_aload_n rfl rfl ?_
  refine R_getI rfl rfl (Or.inl rfl) ?_
  try refine R_top (y := nI _) (by assumption) ?_
  refine R_iald rfl rfl rfl (show _ < 2000 from by omega) ?_
  try refine R_top (y := nI _) (by assumption) ?_
  refine R_istore_n (lv' := [(2, _), (1, _), (0, _)]) rfl rfl ?_
  refine R_aload_n rfl rfl ?_
  refine R_getI rfl rfl (Or.inl rfl) ?_
  try refine R_top (y := nI _) (by assumption) ?_
  refine R_aload_n rfl rfl ?_
  refine R_getA rfl rfl (Or.inl rfl) ?_
  refine R_aload_n rfl rfl ?_
  refine R_getI rfl rfl (Or.inl rfl) ?_
  try refine R_top (y := nI _) (by assumption) ?_
  refine R_iconst (y := nI 1) rfl (by decide) ?_
  first | refine R_isubN rfl (by omega) ?_ | refine R_isub rfl ?_
  refine R_iald rfl rfl rfl (show _ < 200 from by omega) ?_
  try refine R_top (y := nI _) (by assumption) ?_
  first | refine R_isubN rfl (by omega) ?_ | refine R_isub rfl ?_
  refine R_iload_n rfl rfl ?_
  refine R_aload_n rfl rfl ?_
  refine R_getA rfl rfl (Or.inl rfl) ?_
  refine R_aload_n rfl rfl ?_
  refine R_getI rfl rfl (Or.inl rfl) ?_
  try refine R_top (y := nI _) (by assumption) ?_
  refine R_iald rfl rfl rfl (show _ < 2000 from by omega) ?_
  try refine R_top (y := nI _) (by assumption) ?_
  refine R_stat rfl rfl rfl (Nat.le_of_ble_eq_true rfl) rfl rfl (Nat.le_of_ble_eq_true rfl) (fun _ q => by cases q) (r_wants1) ?_
  try refine R_top (y := nI _) (by assumption) ?_
  refine R_icT (pc' := 97) rfl rfl (by first | assumption | exact icT (by decide) | exact ic_T (by omega) (by omega) (by simp only [icN, not_true_eq_false, not_false_eq_true] <;> omega) | exact ic_T0 (by omega) (by simp only [icN, not_true_eq_false, not_false_eq_true] <;> omega)) ?_
  refine R_iload_n rfl rfl ?_
  refine R_bipush (y := nI 19) rfl (by decide) ?_
  refine R_icF rfl (by first | assumption | exact icF (by decide) | exact ic_F (by omega) (by omega) (by simp only [icN, not_true_eq_false, not_false_eq_true] <;> omega) | exact ic_F0 (by omega) (by simp only [icN, not_true_eq_false, not_false_eq_true] <;> omega)) ?_
  refine R_aload_n rfl rfl ?_
  refine R_iload_n rfl rfl ?_
  refine R_iload_n rfl rfl ?_
  refine R_virt rfl rfl rfl rfl rfl rfl rfl (Nat.le_of_ble_eq_true rfl) (fun _ q => by cases q) (hX) ?_
  try refine R_top (y := nI _) (by assumption) ?_
  exact R_iret rfl rfl (by first | trivial | exact Or.inl rfl | exact Or.inr rfl | assumption) ⟨rfl, rfl⟩
theorem r_sim2 {d : Nat} {M : Mem} {a w p f q b s : Nat} (ha : M 10 0 = nI a) (hw : M 5 0 = nI w) (haw : a < w) (hw2 : w ≤ 2000) (hB : M 4 a = nI b) (hb2 : b ≤ 15) (hp : M 14 0 = nI p) (hp1 : p ≤ 1000) (hf : M 22 0 = nI f) (hf0 : 0 < f) (hf1 : f ≤ 200) (hq : M 15 (f - 1) = nI q) (hqp : q ≤ p) (ho : M 2 a = nI 2) (hen : wnt 2 b ≤ p - q) {v : Int32} {M' : Mem} (hX : CalR (d + 6) j_X9_simple [.ref 0, .int (nI 2), .int (M 3 a)] M (some (.int v)) M') : CalR (d + 7) j_X9_oneStep [.ref 0] M (some (.int v)) M' := by
  have hen : 0 ≤ p - q := hen
  have hwn : nI (wnt 2 b) = nI 0 := rfl
  refine CalR_of (md := md_X9_oneStep) (d := d + 6) rfl (Nat.le_of_ble_eq_true rfl) ?_
  show WR (CalR (d + 6)) t_X9_oneStep 9 (some .int) _ 0 [(0, .ref 0)] [] _
  refine R_aload_n rfl rfl ?_
  refine R_getI rfl rfl (Or.inl rfl) ?_
  try refine R_top (y := nI _) (by assumption) ?_
  refine R_aload_n rfl rfl ?_
  refine R_getI rfl rfl (Or.inl rfl) ?_
  try refine R_top (y := nI _) (by assumption) ?_
  refine R_icF rfl (by first | assumption | exact icF (by decide) | exact ic_F (by omega) (by omega) (by simp only [icN, not_true_eq_false, not_false_eq_true] <;> omega) | exact ic_F0 (by omega) (by simp only [icN, not_true_eq_false, not_false_eq_true] <;> omega)) ?_
  refine R_aload_n rfl rfl ?_
  refine R_getA rfl rfl (Or.inl rfl) ?_
  refine R_aload_n rfl rfl ?_
  refine R_getI rfl rfl (Or.inl rfl) ?_
  try refine R_top (y := nI _) (by assumption) ?_
  refine R_iald rfl rfl rfl (show _ < 2000 from by omega) ?_
  try refine R_top (y := nI _) (by assumption) ?_
  refine R_ifT (pc' := 39) rfl rfl (by first | assumption | exact icT (by decide) | exact ic_T (by omega) (by omega) (by simp only [icN, not_true_eq_false, not_false_eq_true] <;> omega) | exact ic_T0 (by omega) (by simp only [icN, not_true_eq_false, not_false_eq_true] <;> omega)) ?_
  refine R_aload_n rfl rfl ?_
  refine R_getA rfl rfl (Or.inl rfl) ?_
  refine R_aload_n rfl rfl ?_
  refine R_getI rfl rfl (Or.inl rfl) ?_
  try refine R_top (y := nI _) (by assumption) ?_
  refine R_iald rfl rfl rfl (show _ < 2000 from by omega) ?_
  try refine R_top (y := nI _) (by assumption) ?_
  refine R_istore_n (lv' := [(1, _), (0, _)]) rfl rfl ?_
  refine R_aload_n rfl rfl ?_
  refine R_getA rfl rfl (Or.inl rfl) ?_
  refine R_aload_n rfl rfl ?_
  refine R_getI rfl rfl (Or.inl rfl) ?_
  try refine R_top (y := nI _) (by assumption) ?_
  refine R_iald rfl rfl rfl (show _ < 2000 from by omega) ?_
  try refine R_top (y := nI _) (by assumption) ?_
  refine R_istore_n (lv' := [(2, _), (1, _), (0, _)]) rfl rfl ?_
  refine R_aload_n rfl rfl ?_
  refine R_getI rfl rfl (Or.inl rfl) ?_
  try refine R_top (y := nI _) (by assumption) ?_
  refine R_aload_n rfl rfl ?_
  refine R_getA rfl rfl (Or.inl rfl) ?_
  refine R_aload_n rfl rfl ?_
  refine R_getI rfl rfl (Or.inl rfl) ?_
  try refine R_top (y := nI _) (by assumption) ?_
  refine R_iconst (y := nI 1) rfl (by decide) ?_
  first | refine R_isubN rfl (by omega) ?_ | refine R_isub rfl ?_
  refine R_iald rfl rfl rfl (show _ < 200 from by omega) ?_
  try refine R_top (y := nI _) (by assumption) ?_
  first | refine R_isubN rfl (by omega) ?_ | refine R_isub rfl ?_
  refine R_iload_n rfl rfl ?_
  refine R_aload_n rfl rfl ?_
  refine R_getA rfl rfl (Or.inl rfl) ?_
  refine R_aload_n rfl rfl ?_
  refine R_getI rfl rfl (Or.inl rfl) ?_
  try refine R_top (y := nI _) (by assumption) ?_
  refine R_iald rfl rfl rfl (show _ < 2000 from by omega) ?_
  try refine R_top (y := nI _) (by assumption) ?_
  refine R_stat rfl rfl rfl (Nat.le_of_ble_eq_true rfl) rfl rfl (Nat.le_of_ble_eq_true rfl) (fun _ q => by cases q) (r_wants2) ?_
  try refine R_top (y := nI _) (by assumption) ?_
  refine R_icT (pc' := 97) rfl rfl (by first | assumption | exact icT (by decide) | exact ic_T (by omega) (by omega) (by simp only [icN, not_true_eq_false, not_false_eq_true] <;> omega) | exact ic_T0 (by omega) (by simp only [icN, not_true_eq_false, not_false_eq_true] <;> omega)) ?_
  refine R_iload_n rfl rfl ?_
  refine R_bipush (y := nI 19) rfl (by decide) ?_
  refine R_icF rfl (by first | assumption | exact icF (by decide) | exact ic_F (by omega) (by omega) (by simp only [icN, not_true_eq_false, not_false_eq_true] <;> omega) | exact ic_F0 (by omega) (by simp only [icN, not_true_eq_false, not_false_eq_true] <;> omega)) ?_
  refine R_aload_n rfl rfl ?_
  refine R_iload_n rfl rfl ?_
  refine R_iload_n rfl rfl ?_
  refine R_virt rfl rfl rfl rfl rfl rfl rfl (Nat.le_of_ble_eq_true rfl) (fun _ q => by cases q) (hX) ?_
  try refine R_top (y := nI _) (by assumption) ?_
  exact R_iret rfl rfl (by first | trivial | exact Or.inl rfl | exact Or.inr rfl | assumption) ⟨rfl, rfl⟩
theorem r_sim3 {d : Nat} {M : Mem} {a w p f q b s : Nat} (ha : M 10 0 = nI a) (hw : M 5 0 = nI w) (haw : a < w) (hw2 : w ≤ 2000) (hB : M 4 a = nI b) (hb2 : b ≤ 15) (hp : M 14 0 = nI p) (hp1 : p ≤ 1000) (hf : M 22 0 = nI f) (hf0 : 0 < f) (hf1 : f ≤ 200) (hq : M 15 (f - 1) = nI q) (hqp : q ≤ p) (ho : M 2 a = nI 3) (hen : wnt 3 b ≤ p - q) {v : Int32} {M' : Mem} (hX : CalR (d + 6) j_X9_simple [.ref 0, .int (nI 3), .int (M 3 a)] M (some (.int v)) M') : CalR (d + 7) j_X9_oneStep [.ref 0] M (some (.int v)) M' := by
  have hen : 1 ≤ p - q := hen
  have hwn : nI (wnt 3 b) = nI 1 := rfl
  refine CalR_of (md := md_X9_oneStep) (d := d + 6) rfl (Nat.le_of_ble_eq_true rfl) ?_
  show WR (CalR (d + 6)) t_X9_oneStep 9 (some .int) _ 0 [(0, .ref 0)] [] _
  refine R_aload_n rfl rfl ?_
  refine R_getI rfl rfl (Or.inl rfl) ?_
  try refine R_top (y := nI _) (by assumption) ?_
  refine R_aload_n rfl rfl ?_
  refine R_getI rfl rfl (Or.inl rfl) ?_
  try refine R_top (y := nI _) (by assumption) ?_
  refine R_icF rfl (by first | assumption | exact icF (by decide) | exact ic_F (by omega) (by omega) (by simp only [icN, not_true_eq_false, not_false_eq_true] <;> omega) | exact ic_F0 (by omega) (by simp only [icN, not_true_eq_false, not_false_eq_true] <;> omega)) ?_
  refine R_aload_n rfl rfl ?_
  refine R_getA rfl rfl (Or.inl rfl) ?_
  refine R_aload_n rfl rfl ?_
  refine R_getI rfl rfl (Or.inl rfl) ?_
  try refine R_top (y := nI _) (by assumption) ?_
  refine R_iald rfl rfl rfl (show _ < 2000 from by omega) ?_
  try refine R_top (y := nI _) (by assumption) ?_
  refine R_ifT (pc' := 39) rfl rfl (by first | assumption | exact icT (by decide) | exact ic_T (by omega) (by omega) (by simp only [icN, not_true_eq_false, not_false_eq_true] <;> omega) | exact ic_T0 (by omega) (by simp only [icN, not_true_eq_false, not_false_eq_true] <;> omega)) ?_
  refine R_aload_n rfl rfl ?_
  refine R_getA rfl rfl (Or.inl rfl) ?_
  refine R_aload_n rfl rfl ?_
  refine R_getI rfl rfl (Or.inl rfl) ?_
  try refine R_top (y := nI _) (by assumption) ?_
  refine R_iald rfl rfl rfl (show _ < 2000 from by omega) ?_
  try refine R_top (y := nI _) (by assumption) ?_
  refine R_istore_n (lv' := [(1, _), (0, _)]) rfl rfl ?_
  refine R_aload_n rfl rfl ?_
  refine R_getA rfl rfl (Or.inl rfl) ?_
  refine R_aload_n rfl rfl ?_
  refine R_getI rfl rfl (Or.inl rfl) ?_
  try refine R_top (y := nI _) (by assumption) ?_
  refine R_iald rfl rfl rfl (show _ < 2000 from by omega) ?_
  try refine R_top (y := nI _) (by assumption) ?_
  refine R_istore_n (lv' := [(2, _), (1, _), (0, _)]) rfl rfl ?_
  refine R_aload_n rfl rfl ?_
  refine R_getI rfl rfl (Or.inl rfl) ?_
  try refine R_top (y := nI _) (by assumption) ?_
  refine R_aload_n rfl rfl ?_
  refine R_getA rfl rfl (Or.inl rfl) ?_
  refine R_aload_n rfl rfl ?_
  refine R_getI rfl rfl (Or.inl rfl) ?_
  try refine R_top (y := nI _) (by assumption) ?_
  refine R_iconst (y := nI 1) rfl (by decide) ?_
  first | refine R_isubN rfl (by omega) ?_ | refine R_isub rfl ?_
  refine R_iald rfl rfl rfl (show _ < 200 from by omega) ?_
  try refine R_top (y := nI _) (by assumption) ?_
  first | refine R_isubN rfl (by omega) ?_ | refine R_isub rfl ?_
  refine R_iload_n rfl rfl ?_
  refine R_aload_n rfl rfl ?_
  refine R_getA rfl rfl (Or.inl rfl) ?_
  refine R_aload_n rfl rfl ?_
  refine R_getI rfl rfl (Or.inl rfl) ?_
  try refine R_top (y := nI _) (by assumption) ?_
  refine R_iald rfl rfl rfl (show _ < 2000 from by omega) ?_
  try refine R_top (y := nI _) (by assumption) ?_
  refine R_stat rfl rfl rfl (Nat.le_of_ble_eq_true rfl) rfl rfl (Nat.le_of_ble_eq_true rfl) (fun _ q => by cases q) (r_wants3) ?_
  try refine R_top (y := nI _) (by assumption) ?_
  refine R_icT (pc' := 97) rfl rfl (by first | assumption | exact icT (by decide) | exact ic_T (by omega) (by omega) (by simp only [icN, not_true_eq_false, not_false_eq_true] <;> omega) | exact ic_T0 (by omega) (by simp only [icN, not_true_eq_false, not_false_eq_true] <;> omega)) ?_
  refine R_iload_n rfl rfl ?_
  refine R_bipush (y := nI 19) rfl (by decide) ?_
  refine R_icF rfl (by first | assumption | exact icF (by decide) | exact ic_F (by omega) (by omega) (by simp only [icN, not_true_eq_false, not_false_eq_true] <;> omega) | exact ic_F0 (by omega) (by simp only [icN, not_true_eq_false, not_false_eq_true] <;> omega)) ?_
  refine R_aload_n rfl rfl ?_
  refine R_iload_n rfl rfl ?_
  refine R_iload_n rfl rfl ?_
  refine R_virt rfl rfl rfl rfl rfl rfl rfl (Nat.le_of_ble_eq_true rfl) (fun _ q => by cases q) (hX) ?_
  try refine R_top (y := nI _) (by assumption) ?_
  exact R_iret rfl rfl (by first | trivial | exact Or.inl rfl | exact Or.inr rfl | assumption) ⟨rfl, rfl⟩
theorem r_sim4 {d : Nat} {M : Mem} {a w p f q b s : Nat} (ha : M 10 0 = nI a) (hw : M 5 0 = nI w) (haw : a < w) (hw2 : w ≤ 2000) (hB : M 4 a = nI b) (hb2 : b ≤ 15) (hp : M 14 0 = nI p) (hp1 : p ≤ 1000) (hf : M 22 0 = nI f) (hf0 : 0 < f) (hf1 : f ≤ 200) (hq : M 15 (f - 1) = nI q) (hqp : q ≤ p) (ho : M 2 a = nI 4) (hen : wnt 4 b ≤ p - q) {v : Int32} {M' : Mem} (hX : CalR (d + 6) j_X9_simple [.ref 0, .int (nI 4), .int (M 3 a)] M (some (.int v)) M') : CalR (d + 7) j_X9_oneStep [.ref 0] M (some (.int v)) M' := by
  have hen : 1 ≤ p - q := hen
  have hwn : nI (wnt 4 b) = nI 1 := rfl
  refine CalR_of (md := md_X9_oneStep) (d := d + 6) rfl (Nat.le_of_ble_eq_true rfl) ?_
  show WR (CalR (d + 6)) t_X9_oneStep 9 (some .int) _ 0 [(0, .ref 0)] [] _
  refine R_aload_n rfl rfl ?_
  refine R_getI rfl rfl (Or.inl rfl) ?_
  try refine R_top (y := nI _) (by assumption) ?_
  refine R_aload_n rfl rfl ?_
  refine R_getI rfl rfl (Or.inl rfl) ?_
  try refine R_top (y := nI _) (by assumption) ?_
  refine R_icF rfl (by first | assumption | exact icF (by decide) | exact ic_F (by omega) (by omega) (by simp only [icN, not_true_eq_false, not_false_eq_true] <;> omega) | exact ic_F0 (by omega) (by simp only [icN, not_true_eq_false, not_false_eq_true] <;> omega)) ?_
  refine R_aload_n rfl rfl ?_
  refine R_getA rfl rfl (Or.inl rfl) ?_
  refine R_aload_n rfl rfl ?_
  refine R_getI rfl rfl (Or.inl rfl) ?_
  try refine R_top (y := nI _) (by assumption) ?_
  refine R_iald rfl rfl rfl (show _ < 2000 from by omega) ?_
  try refine R_top (y := nI _) (by assumption) ?_
  refine R_ifT (pc' := 39) rfl rfl (by first | assumption | exact icT (by decide) | exact ic_T (by omega) (by omega) (by simp only [icN, not_true_eq_false, not_false_eq_true] <;> omega) | exact ic_T0 (by omega) (by simp only [icN, not_true_eq_false, not_false_eq_true] <;> omega)) ?_
  refine R_aload_n rfl rfl ?_
  refine R_getA rfl rfl (Or.inl rfl) ?_
  refine R_aload_n rfl rfl ?_
  refine R_getI rfl rfl (Or.inl rfl) ?_
  try refine R_top (y := nI _) (by assumption) ?_
  refine R_iald rfl rfl rfl (show _ < 2000 from by omega) ?_
  try refine R_top (y := nI _) (by assumption) ?_
  refine R_istore_n (lv' := [(1, _), (0, _)]) rfl rfl ?_
  refine R_aload_n rfl rfl ?_
  refine R_getA rfl rfl (Or.inl rfl) ?_
  refine R_aload_n rfl rfl ?_
  refine R_getI rfl rfl (Or.inl rfl) ?_
  try refine R_top (y := nI _) (by assumption) ?_
  refine R_iald rfl rfl rfl (show _ < 2000 from by omega) ?_
  try refine R_top (y := nI _) (by assumption) ?_
  refine R_istore_n (lv' := [(2, _), (1, _), (0, _)]) rfl rfl ?_
  refine R_aload_n rfl rfl ?_
  refine R_getI rfl rfl (Or.inl rfl) ?_
  try refine R_top (y := nI _) (by assumption) ?_
  refine R_aload_n rfl rfl ?_
  refine R_getA rfl rfl (Or.inl rfl) ?_
  refine R_aload_n rfl rfl ?_
  refine R_getI rfl rfl (Or.inl rfl) ?_
  try refine R_top (y := nI _) (by assumption) ?_
  refine R_iconst (y := nI 1) rfl (by decide) ?_
  first | refine R_isubN rfl (by omega) ?_ | refine R_isub rfl ?_
  refine R_iald rfl rfl rfl (show _ < 200 from by omega) ?_
  try refine R_top (y := nI _) (by assumption) ?_
  first | refine R_isubN rfl (by omega) ?_ | refine R_isub rfl ?_
  refine R_iload_n rfl rfl ?_
  refine R_aload_n rfl rfl ?_
  refine R_getA rfl rfl (Or.inl rfl) ?_
  refine R_aload_n rfl rfl ?_
  refine R_getI rfl rfl (Or.inl rfl) ?_
  try refine R_top (y := nI _) (by assumption) ?_
  refine R_iald rfl rfl rfl (show _ < 2000 from by omega) ?_
  try refine R_top (y := nI _) (by assumption) ?_
  refine R_stat rfl rfl rfl (Nat.le_of_ble_eq_true rfl) rfl rfl (Nat.le_of_ble_eq_true rfl) (fun _ q => by cases q) (r_wants4) ?_
  try refine R_top (y := nI _) (by assumption) ?_
  refine R_icT (pc' := 97) rfl rfl (by first | assumption | exact icT (by decide) | exact ic_T (by omega) (by omega) (by simp only [icN, not_true_eq_false, not_false_eq_true] <;> omega) | exact ic_T0 (by omega) (by simp only [icN, not_true_eq_false, not_false_eq_true] <;> omega)) ?_
  refine R_iload_n rfl rfl ?_
  refine R_bipush (y := nI 19) rfl (by decide) ?_
  refine R_icF rfl (by first | assumption | exact icF (by decide) | exact ic_F (by omega) (by omega) (by simp only [icN, not_true_eq_false, not_false_eq_true] <;> omega) | exact ic_F0 (by omega) (by simp only [icN, not_true_eq_false, not_false_eq_true] <;> omega)) ?_
  refine R_aload_n rfl rfl ?_
  refine R_iload_n rfl rfl ?_
  refine R_iload_n rfl rfl ?_
  refine R_virt rfl rfl rfl rfl rfl rfl rfl (Nat.le_of_ble_eq_true rfl) (fun _ q => by cases q) (hX) ?_
  try refine R_top (y := nI _) (by assumption) ?_
  exact R_iret rfl rfl (by first | trivial | exact Or.inl rfl | exact Or.inr rfl | assumption) ⟨rfl, rfl⟩
theorem r_sim5 {d : Nat} {M : Mem} {a w p f q b s : Nat} (ha : M 10 0 = nI a) (hw : M 5 0 = nI w) (haw : a < w) (hw2 : w ≤ 2000) (hB : M 4 a = nI b) (hb2 : b ≤ 15) (hp : M 14 0 = nI p) (hp1 : p ≤ 1000) (hf : M 22 0 = nI f) (hf0 : 0 < f) (hf1 : f ≤ 200) (hq : M 15 (f - 1) = nI q) (hqp : q ≤ p) (ho : M 2 a = nI 5) (hen : wnt 5 b ≤ p - q) {v : Int32} {M' : Mem} (hX : CalR (d + 6) j_X9_simple [.ref 0, .int (nI 5), .int (M 3 a)] M (some (.int v)) M') : CalR (d + 7) j_X9_oneStep [.ref 0] M (some (.int v)) M' := by
  have hen : 2 ≤ p - q := hen
  have hwn : nI (wnt 5 b) = nI 2 := rfl
  refine CalR_of (md := md_X9_oneStep) (d := d + 6) rfl (Nat.le_of_ble_eq_true rfl) ?_
  show WR (CalR (d + 6)) t_X9_oneStep 9 (some .int) _ 0 [(0, .ref 0)] [] _
  refine R_aload_n rfl rfl ?_
  refine R_getI rfl rfl (Or.inl rfl) ?_
  try refine R_top (y := nI _) (by assumption) ?_
  refine R_aload_n rfl rfl ?_
  refine R_getI rfl rfl (Or.inl rfl) ?_
  try refine R_top (y := nI _) (by assumption) ?_
  refine R_icF rfl (by first | assumption | exact icF (by decide) | exact ic_F (by omega) (by omega) (by simp only [icN, not_true_eq_false, not_false_eq_true] <;> omega) | exact ic_F0 (by omega) (by simp only [icN, not_true_eq_false, not_false_eq_true] <;> omega)) ?_
  refine R_aload_n rfl rfl ?_
  refine R_getA rfl rfl (Or.inl rfl) ?_
  refine R_aload_n rfl rfl ?_
  refine R_getI rfl rfl (Or.inl rfl) ?_
  try refine R_top (y := nI _) (by assumption) ?_
  refine R_iald rfl rfl rfl (show _ < 2000 from by omega) ?_
  try refine R_top (y := nI _) (by assumption) ?_
  refine R_ifT (pc' := 39) rfl rfl (by first | assumption | exact icT (by decide) | exact ic_T (by omega) (by omega) (by simp only [icN, not_true_eq_false, not_false_eq_true] <;> omega) | exact ic_T0 (by omega) (by simp only [icN, not_true_eq_false, not_false_eq_true] <;> omega)) ?_
  refine R_aload_n rfl rfl ?_
  refine R_getA rfl rfl (Or.inl rfl) ?_
  refine R_aload_n rfl rfl ?_
  refine R_getI rfl rfl (Or.inl rfl) ?_
  try refine R_top (y := nI _) (by assumption) ?_
  refine R_iald rfl rfl rfl (show _ < 2000 from by omega) ?_
  try refine R_top (y := nI _) (by assumption) ?_
  refine R_istore_n (lv' := [(1, _), (0, _)]) rfl rfl ?_
  refine R_aload_n rfl rfl ?_
  refine R_getA rfl rfl (Or.inl rfl) ?_
  refine R_aload_n rfl rfl ?_
  refine R_getI rfl rfl (Or.inl rfl) ?_
  try refine R_top (y := nI _) (by assumption) ?_
  refine R_iald rfl rfl rfl (show _ < 2000 from by omega) ?_
  try refine R_top (y := nI _) (by assumption) ?_
  refine R_istore_n (lv' := [(2, _), (1, _), (0, _)]) rfl rfl ?_
  refine R_aload_n rfl rfl ?_
  refine R_getI rfl rfl (Or.inl rfl) ?_
  try refine R_top (y := nI _) (by assumption) ?_
  refine R_aload_n rfl rfl ?_
  refine R_getA rfl rfl (Or.inl rfl) ?_
  refine R_aload_n rfl rfl ?_
  refine R_getI rfl rfl (Or.inl rfl) ?_
  try refine R_top (y := nI _) (by assumption) ?_
  refine R_iconst (y := nI 1) rfl (by decide) ?_
  first | refine R_isubN rfl (by omega) ?_ | refine R_isub rfl ?_
  refine R_iald rfl rfl rfl (show _ < 200 from by omega) ?_
  try refine R_top (y := nI _) (by assumption) ?_
  first | refine R_isubN rfl (by omega) ?_ | refine R_isub rfl ?_
  refine R_iload_n rfl rfl ?_
  refine R_aload_n rfl rfl ?_
  refine R_getA rfl rfl (Or.inl rfl) ?_
  refine R_aload_n rfl rfl ?_
  refine R_getI rfl rfl (Or.inl rfl) ?_
  try refine R_top (y := nI _) (by assumption) ?_
  refine R_iald rfl rfl rfl (show _ < 2000 from by omega) ?_
  try refine R_top (y := nI _) (by assumption) ?_
  refine R_stat rfl rfl rfl (Nat.le_of_ble_eq_true rfl) rfl rfl (Nat.le_of_ble_eq_true rfl) (fun _ q => by cases q) (r_wants5) ?_
  try refine R_top (y := nI _) (by assumption) ?_
  refine R_icT (pc' := 97) rfl rfl (by first | assumption | exact icT (by decide) | exact ic_T (by omega) (by omega) (by simp only [icN, not_true_eq_false, not_false_eq_true] <;> omega) | exact ic_T0 (by omega) (by simp only [icN, not_true_eq_false, not_false_eq_true] <;> omega)) ?_
  refine R_iload_n rfl rfl ?_
  refine R_bipush (y := nI 19) rfl (by decide) ?_
  refine R_icF rfl (by first | assumption | exact icF (by decide) | exact ic_F (by omega) (by omega) (by simp only [icN, not_true_eq_false, not_false_eq_true] <;> omega) | exact ic_F0 (by omega) (by simp only [icN, not_true_eq_false, not_false_eq_true] <;> omega)) ?_
  refine R_aload_n rfl rfl ?_
  refine R_iload_n rfl rfl ?_
  refine R_iload_n rfl rfl ?_
  refine R_virt rfl rfl rfl rfl rfl rfl rfl (Nat.le_of_ble_eq_true rfl) (fun _ q => by cases q) (hX) ?_
  try refine R_top (y := nI _) (by assumption) ?_
  exact R_iret rfl rfl (by first | trivial | exact Or.inl rfl | exact Or.inr rfl | assumption) ⟨rfl, rfl⟩
theorem r_sim6 {d : Nat} {M : Mem} {a w p f q b s : Nat} (ha : M 10 0 = nI a) (hw : M 5 0 = nI w) (haw : a < w) (hw2 : w ≤ 2000) (hB : M 4 a = nI b) (hb2 : b ≤ 15) (hp : M 14 0 = nI p) (hp1 : p ≤ 1000) (hf : M 22 0 = nI f) (hf0 : 0 < f) (hf1 : f ≤ 200) (hq : M 15 (f - 1) = nI q) (hqp : q ≤ p) (ho : M 2 a = nI 6) (hen : wnt 6 b ≤ p - q) {v : Int32} {M' : Mem} (hX : CalR (d + 6) j_X9_simple [.ref 0, .int (nI 6), .int (M 3 a)] M (some (.int v)) M') : CalR (d + 7) j_X9_oneStep [.ref 0] M (some (.int v)) M' := by
  have hen : 2 ≤ p - q := hen
  have hwn : nI (wnt 6 b) = nI 2 := rfl
  refine CalR_of (md := md_X9_oneStep) (d := d + 6) rfl (Nat.le_of_ble_eq_true rfl) ?_
  show WR (CalR (d + 6)) t_X9_oneStep 9 (some .int) _ 0 [(0, .ref 0)] [] _
  refine R_aload_n rfl rfl ?_
  refine R_getI rfl rfl (Or.inl rfl) ?_
  try refine R_top (y := nI _) (by assumption) ?_
  refine R_aload_n rfl rfl ?_
  refine R_getI rfl rfl (Or.inl rfl) ?_
  try refine R_top (y := nI _) (by assumption) ?_
  refine R_icF rfl (by first | assumption | exact icF (by decide) | exact ic_F (by omega) (by omega) (by simp only [icN, not_true_eq_false, not_false_eq_true] <;> omega) | exact ic_F0 (by omega) (by simp only [icN, not_true_eq_false, not_false_eq_true] <;> omega)) ?_
  refine R_aload_n rfl rfl ?_
  refine R_getA rfl rfl (Or.inl rfl) ?_
  refine R_aload_n rfl rfl ?_
  refine R_getI rfl rfl (Or.inl rfl) ?_
  try refine R_top (y := nI _) (by assumption) ?_
  refine R_iald rfl rfl rfl (show _ < 2000 from by omega) ?_
  try refine R_top (y := nI _) (by assumption) ?_
  refine R_ifT (pc' := 39) rfl rfl (by first | assumption | exact icT (by decide) | exact ic_T (by omega) (by omega) (by simp only [icN, not_true_eq_false, not_false_eq_true] <;> omega) | exact ic_T0 (by omega) (by simp only [icN, not_true_eq_false, not_false_eq_true] <;> omega)) ?_
  refine R_aload_n rfl rfl ?_
  refine R_getA rfl rfl (Or.inl rfl) ?_
  refine R_aload_n rfl rfl ?_
  refine R_getI rfl rfl (Or.inl rfl) ?_
  try refine R_top (y := nI _) (by assumption) ?_
  refine R_iald rfl rfl rfl (show _ < 2000 from by omega) ?_
  try refine R_top (y := nI _) (by assumption) ?_
  refine R_istore_n (lv' := [(1, _), (0, _)]) rfl rfl ?_
  refine R_aload_n rfl rfl ?_
  refine R_getA rfl rfl (Or.inl rfl) ?_
  refine R_aload_n rfl rfl ?_
  refine R_getI rfl rfl (Or.inl rfl) ?_
  try refine R_top (y := nI _) (by assumption) ?_
  refine R_iald rfl rfl rfl (show _ < 2000 from by omega) ?_
  try refine R_top (y := nI _) (by assumption) ?_
  refine R_istore_n (lv' := [(2, _), (1, _), (0, _)]) rfl rfl ?_
  refine R_aload_n rfl rfl ?_
  refine R_getI rfl rfl (Or.inl rfl) ?_
  try refine R_top (y := nI _) (by assumption) ?_
  refine R_aload_n rfl rfl ?_
  refine R_getA rfl rfl (Or.inl rfl) ?_
  refine R_aload_n rfl rfl ?_
  refine R_getI rfl rfl (Or.inl rfl) ?_
  try refine R_top (y := nI _) (by assumption) ?_
  refine R_iconst (y := nI 1) rfl (by decide) ?_
  first | refine R_isubN rfl (by omega) ?_ | refine R_isub rfl ?_
  refine R_iald rfl rfl rfl (show _ < 200 from by omega) ?_
  try refine R_top (y := nI _) (by assumption) ?_
  first | refine R_isubN rfl (by omega) ?_ | refine R_isub rfl ?_
  refine R_iload_n rfl rfl ?_
  refine R_aload_n rfl rfl ?_
  refine R_getA rfl rfl (Or.inl rfl) ?_
  refine R_aload_n rfl rfl ?_
  refine R_getI rfl rfl (Or.inl rfl) ?_
  try refine R_top (y := nI _) (by assumption) ?_
  refine R_iald rfl rfl rfl (show _ < 2000 from by omega) ?_
  try refine R_top (y := nI _) (by assumption) ?_
  refine R_stat rfl rfl rfl (Nat.le_of_ble_eq_true rfl) rfl rfl (Nat.le_of_ble_eq_true rfl) (fun _ q => by cases q) (r_wants6) ?_
  try refine R_top (y := nI _) (by assumption) ?_
  refine R_icT (pc' := 97) rfl rfl (by first | assumption | exact icT (by decide) | exact ic_T (by omega) (by omega) (by simp only [icN, not_true_eq_false, not_false_eq_true] <;> omega) | exact ic_T0 (by omega) (by simp only [icN, not_true_eq_false, not_false_eq_true] <;> omega)) ?_
  refine R_iload_n rfl rfl ?_
  refine R_bipush (y := nI 19) rfl (by decide) ?_
  refine R_icF rfl (by first | assumption | exact icF (by decide) | exact ic_F (by omega) (by omega) (by simp only [icN, not_true_eq_false, not_false_eq_true] <;> omega) | exact ic_F0 (by omega) (by simp only [icN, not_true_eq_false, not_false_eq_true] <;> omega)) ?_
  refine R_aload_n rfl rfl ?_
  refine R_iload_n rfl rfl ?_
  refine R_iload_n rfl rfl ?_
  refine R_virt rfl rfl rfl rfl rfl rfl rfl (Nat.le_of_ble_eq_true rfl) (fun _ q => by cases q) (hX) ?_
  try refine R_top (y := nI _) (by assumption) ?_
  exact R_iret rfl rfl (by first | trivial | exact Or.inl rfl | exact Or.inr rfl | assumption) ⟨rfl, rfl⟩
theorem r_sim7 {d : Nat} {M : Mem} {a w p f q b s : Nat} (ha : M 10 0 = nI a) (hw : M 5 0 = nI w) (haw : a < w) (hw2 : w ≤ 2000) (hB : M 4 a = nI b) (hb2 : b ≤ 15) (hp : M 14 0 = nI p) (hp1 : p ≤ 1000) (hf : M 22 0 = nI f) (hf0 : 0 < f) (hf1 : f ≤ 200) (hq : M 15 (f - 1) = nI q) (hqp : q ≤ p) (ho : M 2 a = nI 7) (hen : wnt 7 b ≤ p - q) {v : Int32} {M' : Mem} (hX : CalR (d + 6) j_X9_simple [.ref 0, .int (nI 7), .int (M 3 a)] M (some (.int v)) M') : CalR (d + 7) j_X9_oneStep [.ref 0] M (some (.int v)) M' := by
  have hen : 2 ≤ p - q := hen
  have hwn : nI (wnt 7 b) = nI 2 := rfl
  refine CalR_of (md := md_X9_oneStep) (d := d + 6) rfl (Nat.le_of_ble_eq_true rfl) ?_
  show WR (CalR (d + 6)) t_X9_oneStep 9 (some .int) _ 0 [(0, .ref 0)] [] _
  refine R_aload_n rfl rfl ?_
  refine R_getI rfl rfl (Or.inl rfl) ?_
  try refine R_top (y := nI _) (by assumption) ?_
  refine R_aload_n rfl rfl ?_
  refine R_getI rfl rfl (Or.inl rfl) ?_
  try refine R_top (y := nI _) (by assumption) ?_
  refine R_icF rfl (by first | assumption | exact icF (by decide) | exact ic_F (by omega) (by omega) (by simp only [icN, not_true_eq_false, not_false_eq_true] <;> omega) | exact ic_F0 (by omega) (by simp only [icN, not_true_eq_false, not_false_eq_true] <;> omega)) ?_
  refine R_aload_n rfl rfl ?_
  refine R_getA rfl rfl (Or.inl rfl) ?_
  refine R_aload_n rfl rfl ?_
  refine R_getI rfl rfl (Or.inl rfl) ?_
  try refine R_top (y := nI _) (by assumption) ?_
  refine R_iald rfl rfl rfl (show _ < 2000 from by omega) ?_
  try refine R_top (y := nI _) (by assumption) ?_
  refine R_ifT (pc' := 39) rfl rfl (by first | assumption | exact icT (by decide) | exact ic_T (by omega) (by omega) (by simp only [icN, not_true_eq_false, not_false_eq_true] <;> omega) | exact ic_T0 (by omega) (by simp only [icN, not_true_eq_false, not_false_eq_true] <;> omega)) ?_
  refine R_aload_n rfl rfl ?_
  refine R_getA rfl rfl (Or.inl rfl) ?_
  refine R_aload_n rfl rfl ?_
  refine R_getI rfl rfl (Or.inl rfl) ?_
  try refine R_top (y := nI _) (by assumption) ?_
  refine R_iald rfl rfl rfl (show _ < 2000 from by omega) ?_
  try refine R_top (y := nI _) (by assumption) ?_
  refine R_istore_n (lv' := [(1, _), (0, _)]) rfl rfl ?_
  refine R_aload_n rfl rfl ?_
  refine R_getA rfl rfl (Or.inl rfl) ?_
  refine R_aload_n rfl rfl ?_
  refine R_getI rfl rfl (Or.inl rfl) ?_
  try refine R_top (y := nI _) (by assumption) ?_
  refine R_iald rfl rfl rfl (show _ < 2000 from by omega) ?_
  try refine R_top (y := nI _) (by assumption) ?_
  refine R_istore_n (lv' := [(2, _), (1, _), (0, _)]) rfl rfl ?_
  refine R_aload_n rfl rfl ?_
  refine R_getI rfl rfl (Or.inl rfl) ?_
  try refine R_top (y := nI _) (by assumption) ?_
  refine R_aload_n rfl rfl ?_
  refine R_getA rfl rfl (Or.inl rfl) ?_
  refine R_aload_n rfl rfl ?_
  refine R_getI rfl rfl (Or.inl rfl) ?_
  try refine R_top (y := nI _) (by assumption) ?_
  refine R_iconst (y := nI 1) rfl (by decide) ?_
  first | refine R_isubN rfl (by omega) ?_ | refine R_isub rfl ?_
  refine R_iald rfl rfl rfl (show _ < 200 from by omega) ?_
  try refine R_top (y := nI _) (by assumption) ?_
  first | refine R_isubN rfl (by omega) ?_ | refine R_isub rfl ?_
  refine R_iload_n rfl rfl ?_
  refine R_aload_n rfl rfl ?_
  refine R_getA rfl rfl (Or.inl rfl) ?_
  refine R_aload_n rfl rfl ?_
  refine R_getI rfl rfl (Or.inl rfl) ?_
  try refine R_top (y := nI _) (by assumption) ?_
  refine R_iald rfl rfl rfl (show _ < 2000 from by omega) ?_
  try refine R_top (y := nI _) (by assumption) ?_
  refine R_stat rfl rfl rfl (Nat.le_of_ble_eq_true rfl) rfl rfl (Nat.le_of_ble_eq_true rfl) (fun _ q => by cases q) (r_wants7) ?_
  try refine R_top (y := nI _) (by assumption) ?_
  refine R_icT (pc' := 97) rfl rfl (by first | assumption | exact icT (by decide) | exact ic_T (by omega) (by omega) (by simp only [icN, not_true_eq_false, not_false_eq_true] <;> omega) | exact ic_T0 (by omega) (by simp only [icN, not_true_eq_false, not_false_eq_true] <;> omega)) ?_
  refine R_iload_n rfl rfl ?_
  refine R_bipush (y := nI 19) rfl (by decide) ?_
  refine R_icF rfl (by first | assumption | exact icF (by decide) | exact ic_F (by omega) (by omega) (by simp only [icN, not_true_eq_false, not_false_eq_true] <;> omega) | exact ic_F0 (by omega) (by simp only [icN, not_true_eq_false, not_false_eq_true] <;> omega)) ?_
  refine R_aload_n rfl rfl ?_
  refine R_iload_n rfl rfl ?_
  refine R_iload_n rfl rfl ?_
  refine R_virt rfl rfl rfl rfl rfl rfl rfl (Nat.le_of_ble_eq_true rfl) (fun _ q => by cases q) (hX) ?_
  try refine R_top (y := nI _) (by assumption) ?_
  exact R_iret rfl rfl (by first | trivial | exact Or.inl rfl | exact Or.inr rfl | assumption) ⟨rfl, rfl⟩
theorem r_sim8 {d : Nat} {M : Mem} {a w p f q b s : Nat} (ha : M 10 0 = nI a) (hw : M 5 0 = nI w) (haw : a < w) (hw2 : w ≤ 2000) (hB : M 4 a = nI b) (hb2 : b ≤ 15) (hp : M 14 0 = nI p) (hp1 : p ≤ 1000) (hf : M 22 0 = nI f) (hf0 : 0 < f) (hf1 : f ≤ 200) (hq : M 15 (f - 1) = nI q) (hqp : q ≤ p) (ho : M 2 a = nI 8) (hen : wnt 8 b ≤ p - q) {v : Int32} {M' : Mem} (hX : CalR (d + 6) j_X9_simple [.ref 0, .int (nI 8), .int (M 3 a)] M (some (.int v)) M') : CalR (d + 7) j_X9_oneStep [.ref 0] M (some (.int v)) M' := by
  have hen : 2 ≤ p - q := hen
  have hwn : nI (wnt 8 b) = nI 2 := rfl
  refine CalR_of (md := md_X9_oneStep) (d := d + 6) rfl (Nat.le_of_ble_eq_true rfl) ?_
  show WR (CalR (d + 6)) t_X9_oneStep 9 (some .int) _ 0 [(0, .ref 0)] [] _
  refine R_aload_n rfl rfl ?_
  refine R_getI rfl rfl (Or.inl rfl) ?_
  try refine R_top (y := nI _) (by assumption) ?_
  refine R_aload_n rfl rfl ?_
  refine R_getI rfl rfl (Or.inl rfl) ?_
  try refine R_top (y := nI _) (by assumption) ?_
  refine R_icF rfl (by first | assumption | exact icF (by decide) | exact ic_F (by omega) (by omega) (by simp only [icN, not_true_eq_false, not_false_eq_true] <;> omega) | exact ic_F0 (by omega) (by simp only [icN, not_true_eq_false, not_false_eq_true] <;> omega)) ?_
  refine R_aload_n rfl rfl ?_
  refine R_getA rfl rfl (Or.inl rfl) ?_
  refine R_aload_n rfl rfl ?_
  refine R_getI rfl rfl (Or.inl rfl) ?_
  try refine R_top (y := nI _) (by assumption) ?_
  refine R_iald rfl rfl rfl (show _ < 2000 from by omega) ?_
  try refine R_top (y := nI _) (by assumption) ?_
  refine R_ifT (pc' := 39) rfl rfl (by first | assumption | exact icT (by decide) | exact ic_T (by omega) (by omega) (by simp only [icN, not_true_eq_false, not_false_eq_true] <;> omega) | exact ic_T0 (by omega) (by simp only [icN, not_true_eq_false, not_false_eq_true] <;> omega)) ?_
  refine R_aload_n rfl rfl ?_
  refine R_getA rfl rfl (Or.inl rfl) ?_
  refine R_aload_n rfl rfl ?_
  refine R_getI rfl rfl (Or.inl rfl) ?_
  try refine R_top (y := nI _) (by assumption) ?_
  refine R_iald rfl rfl rfl (show _ < 2000 from by omega) ?_
  try refine R_top (y := nI _) (by assumption) ?_
  refine R_istore_n (lv' := [(1, _), (0, _)]) rfl rfl ?_
  refine R_aload_n rfl rfl ?_
  refine R_getA rfl rfl (Or.inl rfl) ?_
  refine R_aload_n rfl rfl ?_
  refine R_getI rfl rfl (Or.inl rfl) ?_
  try refine R_top (y := nI _) (by assumption) ?_
  refine R_iald rfl rfl rfl (show _ < 2000 from by omega) ?_
  try refine R_top (y := nI _) (by assumption) ?_
  refine R_istore_n (lv' := [(2, _), (1, _), (0, _)]) rfl rfl ?_
  refine R_aload_n rfl rfl ?_
  refine R_getI rfl rfl (Or.inl rfl) ?_
  try refine R_top (y := nI _) (by assumption) ?_
  refine R_aload_n rfl rfl ?_
  refine R_getA rfl rfl (Or.inl rfl) ?_
  refine R_aload_n rfl rfl ?_
  refine R_getI rfl rfl (Or.inl rfl) ?_
  try refine R_top (y := nI _) (by assumption) ?_
  refine R_iconst (y := nI 1) rfl (by decide) ?_
  first | refine R_isubN rfl (by omega) ?_ | refine R_isub rfl ?_
  refine R_iald rfl rfl rfl (show _ < 200 from by omega) ?_
  try refine R_top (y := nI _) (by assumption) ?_
  first | refine R_isubN rfl (by omega) ?_ | refine R_isub rfl ?_
  refine R_iload_n rfl rfl ?_
  refine R_aload_n rfl rfl ?_
  refine R_getA rfl rfl (Or.inl rfl) ?_
  refine R_aload_n rfl rfl ?_
  refine R_getI rfl rfl (Or.inl rfl) ?_
  try refine R_top (y := nI _) (by assumption) ?_
  refine R_iald rfl rfl rfl (show _ < 2000 from by omega) ?_
  try refine R_top (y := nI _) (by assumption) ?_
  refine R_stat rfl rfl rfl (Nat.le_of_ble_eq_true rfl) rfl rfl (Nat.le_of_ble_eq_true rfl) (fun _ q => by cases q) (r_wants8) ?_
  try refine R_top (y := nI _) (by assumption) ?_
  refine R_icT (pc' := 97) rfl rfl (by first | assumption | exact icT (by decide) | exact ic_T (by omega) (by omega) (by simp only [icN, not_true_eq_false, not_false_eq_true] <;> omega) | exact ic_T0 (by omega) (by simp only [icN, not_true_eq_false, not_false_eq_true] <;> omega)) ?_
  refine R_iload_n rfl rfl ?_
  refine R_bipush (y := nI 19) rfl (by decide) ?_
  refine R_icF rfl (by first | assumption | exact icF (by decide) | exact ic_F (by omega) (by omega) (by simp only [icN, not_true_eq_false, not_false_eq_true] <;> omega) | exact ic_F0 (by omega) (by simp only [icN, not_true_eq_false, not_false_eq_true] <;> omega)) ?_
  refine R_aload_n rfl rfl ?_
  refine R_iload_n rfl rfl ?_
  refine R_iload_n rfl rfl ?_
  refine R_virt rfl rfl rfl rfl rfl rfl rfl (Nat.le_of_ble_eq_true rfl) (fun _ q => by cases q) (hX) ?_
  try refine R_top (y := nI _) (by assumption) ?_
  exact R_iret rfl rfl (by first | trivial | exact Or.inl rfl | exact Or.inr rfl | assumption) ⟨rfl, rfl⟩
theorem r_sim9 {d : Nat} {M : Mem} {a w p f q b s : Nat} (ha : M 10 0 = nI a) (hw : M 5 0 = nI w) (haw : a < w) (hw2 : w ≤ 2000) (hB : M 4 a = nI b) (hb2 : b ≤ 15) (hp : M 14 0 = nI p) (hp1 : p ≤ 1000) (hf : M 22 0 = nI f) (hf0 : 0 < f) (hf1 : f ≤ 200) (hq : M 15 (f - 1) = nI q) (hqp : q ≤ p) (ho : M 2 a = nI 9) (hen : wnt 9 b ≤ p - q) {v : Int32} {M' : Mem} (hX : CalR (d + 6) j_X9_simple [.ref 0, .int (nI 9), .int (M 3 a)] M (some (.int v)) M') : CalR (d + 7) j_X9_oneStep [.ref 0] M (some (.int v)) M' := by
  have hen : 2 ≤ p - q := hen
  have hwn : nI (wnt 9 b) = nI 2 := rfl
  refine CalR_of (md := md_X9_oneStep) (d := d + 6) rfl (Nat.le_of_ble_eq_true rfl) ?_
  show WR (CalR (d + 6)) t_X9_oneStep 9 (some .int) _ 0 [(0, .ref 0)] [] _
  refine R_aload_n rfl rfl ?_
  refine R_getI rfl rfl (Or.inl rfl) ?_
  try refine R_top (y := nI _) (by assumption) ?_
  refine R_aload_n rfl rfl ?_
  refine R_getI rfl rfl (Or.inl rfl) ?_
  try refine R_top (y := nI _) (by assumption) ?_
  refine R_icF rfl (by first | assumption | exact icF (by decide) | exact ic_F (by omega) (by omega) (by simp only [icN, not_true_eq_false, not_false_eq_true] <;> omega) | exact ic_F0 (by omega) (by simp only [icN, not_true_eq_false, not_false_eq_true] <;> omega)) ?_
  refine R_aload_n rfl rfl ?_
  refine R_getA rfl rfl (Or.inl rfl) ?_
  refine R_aload_n rfl rfl ?_
  refine R_getI rfl rfl (Or.inl rfl) ?_
  try refine R_top (y := nI _) (by assumption) ?_
  refine R_iald rfl rfl rfl (show _ < 2000 from by omega) ?_
  try refine R_top (y := nI _) (by assumption) ?_
  refine R_ifT (pc' := 39) rfl rfl (by first | assumption | exact icT (by decide) | exact ic_T (by omega) (by omega) (by simp only [icN, not_true_eq_false, not_false_eq_true] <;> omega) | exact ic_T0 (by omega) (by simp only [icN, not_true_eq_false, not_false_eq_true] <;> omega)) ?_
  refine R_aload_n rfl rfl ?_
  refine R_getA rfl rfl (Or.inl rfl) ?_
  refine R_aload_n rfl rfl ?_
  refine R_getI rfl rfl (Or.inl rfl) ?_
  try refine R_top (y := nI _) (by assumption) ?_
  refine R_iald rfl rfl rfl (show _ < 2000 from by omega) ?_
  try refine R_top (y := nI _) (by assumption) ?_
  refine R_istore_n (lv' := [(1, _), (0, _)]) rfl rfl ?_
  refine R_aload_n rfl rfl ?_
  refine R_getA rfl rfl (Or.inl rfl) ?_
  refine R_aload_n rfl rfl ?_
  refine R_getI rfl rfl (Or.inl rfl) ?_
  try refine R_top (y := nI _) (by assumption) ?_
  refine R_iald rfl rfl rfl (show _ < 2000 from by omega) ?_
  try refine R_top (y := nI _) (by assumption) ?_
  refine R_istore_n (lv' := [(2, _), (1, _), (0, _)]) rfl rfl ?_
  refine R_aload_n rfl rfl ?_
  refine R_getI rfl rfl (Or.inl rfl) ?_
  try refine R_top (y := nI _) (by assumption) ?_
  refine R_aload_n rfl rfl ?_
  refine R_getA rfl rfl (Or.inl rfl) ?_
  refine R_aload_n rfl rfl ?_
  refine R_getI rfl rfl (Or.inl rfl) ?_
  try refine R_top (y := nI _) (by assumption) ?_
  refine R_iconst (y := nI 1) rfl (by decide) ?_
  first | refine R_isubN rfl (by omega) ?_ | refine R_isub rfl ?_
  refine R_iald rfl rfl rfl (show _ < 200 from by omega) ?_
  try refine R_top (y := nI _) (by assumption) ?_
  first | refine R_isubN rfl (by omega) ?_ | refine R_isub rfl ?_
  refine R_iload_n rfl rfl ?_
  refine R_aload_n rfl rfl ?_
  refine R_getA rfl rfl (Or.inl rfl) ?_
  refine R_aload_n rfl rfl ?_
  refine R_getI rfl rfl (Or.inl rfl) ?_
  try refine R_top (y := nI _) (by assumption) ?_
  refine R_iald rfl rfl rfl (show _ < 2000 from by omega) ?_
  try refine R_top (y := nI _) (by assumption) ?_
  refine R_stat rfl rfl rfl (Nat.le_of_ble_eq_true rfl) rfl rfl (Nat.le_of_ble_eq_true rfl) (fun _ q => by cases q) (r_wants9) ?_
  try refine R_top (y := nI _) (by assumption) ?_
  refine R_icT (pc' := 97) rfl rfl (by first | assumption | exact icT (by decide) | exact ic_T (by omega) (by omega) (by simp only [icN, not_true_eq_false, not_false_eq_true] <;> omega) | exact ic_T0 (by omega) (by simp only [icN, not_true_eq_false, not_false_eq_true] <;> omega)) ?_
  refine R_iload_n rfl rfl ?_
  refine R_bipush (y := nI 19) rfl (by decide) ?_
  refine R_icF rfl (by first | assumption | exact icF (by decide) | exact ic_F (by omega) (by omega) (by simp only [icN, not_true_eq_false, not_false_eq_true] <;> omega) | exact ic_F0 (by omega) (by simp only [icN, not_true_eq_false, not_false_eq_true] <;> omega)) ?_
  refine R_aload_n rfl rfl ?_
  refine R_iload_n rfl rfl ?_
  refine R_iload_n rfl rfl ?_
  refine R_virt rfl rfl rfl rfl rfl rfl rfl (Nat.le_of_ble_eq_true rfl) (fun _ q => by cases q) (hX) ?_
  try refine R_top (y := nI _) (by assumption) ?_
  exact R_iret rfl rfl (by first | trivial | exact Or.inl rfl | exact Or.inr rfl | assumption) ⟨rfl, rfl⟩
theorem r_sim10 {d : Nat} {M : Mem} {a w p f q b s : Nat} (ha : M 10 0 = nI a) (hw : M 5 0 = nI w) (haw : a < w) (hw2 : w ≤ 2000) (hB : M 4 a = nI b) (hb2 : b ≤ 15) (hp : M 14 0 = nI p) (hp1 : p ≤ 1000) (hf : M 22 0 = nI f) (hf0 : 0 < f) (hf1 : f ≤ 200) (hq : M 15 (f - 1) = nI q) (hqp : q ≤ p) (ho : M 2 a = nI 10) (hen : wnt 10 b ≤ p - q) {v : Int32} {M' : Mem} (hX : CalR (d + 6) j_X9_simple [.ref 0, .int (nI 10), .int (M 3 a)] M (some (.int v)) M') : CalR (d + 7) j_X9_oneStep [.ref 0] M (some (.int v)) M' := by
  have hen : 2 ≤ p - q := hen
  have hwn : nI (wnt 10 b) = nI 2 := rfl
  refine CalR_of (md := md_X9_oneStep) (d := d + 6) rfl (Nat.le_of_ble_eq_true rfl) ?_
  show WR (CalR (d + 6)) t_X9_oneStep 9 (some .int) _ 0 [(0, .ref 0)] [] _
  refine R_aload_n rfl rfl ?_
  refine R_getI rfl rfl (Or.inl rfl) ?_
  try refine R_top (y := nI _) (by assumption) ?_
  refine R_aload_n rfl rfl ?_
  refine R_getI rfl rfl (Or.inl rfl) ?_
  try refine R_top (y := nI _) (by assumption) ?_
  refine R_icF rfl (by first | assumption | exact icF (by decide) | exact ic_F (by omega) (by omega) (by simp only [icN, not_true_eq_false, not_false_eq_true] <;> omega) | exact ic_F0 (by omega) (by simp only [icN, not_true_eq_false, not_false_eq_true] <;> omega)) ?_
  refine R_aload_n rfl rfl ?_
  refine R_getA rfl rfl (Or.inl rfl) ?_
  refine R_aload_n rfl rfl ?_
  refine R_getI rfl rfl (Or.inl rfl) ?_
  try refine R_top (y := nI _) (by assumption) ?_
  refine R_iald rfl rfl rfl (show _ < 2000 from by omega) ?_
  try refine R_top (y := nI _) (by assumption) ?_
  refine R_ifT (pc' := 39) rfl rfl (by first | assumption | exact icT (by decide) | exact ic_T (by omega) (by omega) (by simp only [icN, not_true_eq_false, not_false_eq_true] <;> omega) | exact ic_T0 (by omega) (by simp only [icN, not_true_eq_false, not_false_eq_true] <;> omega)) ?_
  refine R_aload_n rfl rfl ?_
  refine R_getA rfl rfl (Or.inl rfl) ?_
  refine R_aload_n rfl rfl ?_
  refine R_getI rfl rfl (Or.inl rfl) ?_
  try refine R_top (y := nI _) (by assumption) ?_
  refine R_iald rfl rfl rfl (show _ < 2000 from by omega) ?_
  try refine R_top (y := nI _) (by assumption) ?_
  refine R_istore_n (lv' := [(1, _), (0, _)]) rfl rfl ?_
  refine R_aload_n rfl rfl ?_
  refine R_getA rfl rfl (Or.inl rfl) ?_
  refine R_aload_n rfl rfl ?_
  refine R_getI rfl rfl (Or.inl rfl) ?_
  try refine R_top (y := nI _) (by assumption) ?_
  refine R_iald rfl rfl rfl (show _ < 2000 from by omega) ?_
  try refine R_top (y := nI _) (by assumption) ?_
  refine R_istore_n (lv' := [(2, _), (1, _), (0, _)]) rfl rfl ?_
  refine R_aload_n rfl rfl ?_
  refine R_getI rfl rfl (Or.inl rfl) ?_
  try refine R_top (y := nI _) (by assumption) ?_
  refine R_aload_n rfl rfl ?_
  refine R_getA rfl rfl (Or.inl rfl) ?_
  refine R_aload_n rfl rfl ?_
  refine R_getI rfl rfl (Or.inl rfl) ?_
  try refine R_top (y := nI _) (by assumption) ?_
  refine R_iconst (y := nI 1) rfl (by decide) ?_
  first | refine R_isubN rfl (by omega) ?_ | refine R_isub rfl ?_
  refine R_iald rfl rfl rfl (show _ < 200 from by omega) ?_
  try refine R_top (y := nI _) (by assumption) ?_
  first | refine R_isubN rfl (by omega) ?_ | refine R_isub rfl ?_
  refine R_iload_n rfl rfl ?_
  refine R_aload_n rfl rfl ?_
  refine R_getA rfl rfl (Or.inl rfl) ?_
  refine R_aload_n rfl rfl ?_
  refine R_getI rfl rfl (Or.inl rfl) ?_
  try refine R_top (y := nI _) (by assumption) ?_
  refine R_iald rfl rfl rfl (show _ < 2000 from by omega) ?_
  try refine R_top (y := nI _) (by assumption) ?_
  refine R_stat rfl rfl rfl (Nat.le_of_ble_eq_true rfl) rfl rfl (Nat.le_of_ble_eq_true rfl) (fun _ q => by cases q) (r_wants10) ?_
  try refine R_top (y := nI _) (by assumption) ?_
  refine R_icT (pc' := 97) rfl rfl (by first | assumption | exact icT (by decide) | exact ic_T (by omega) (by omega) (by simp only [icN, not_true_eq_false, not_false_eq_true] <;> omega) | exact ic_T0 (by omega) (by simp only [icN, not_true_eq_false, not_false_eq_true] <;> omega)) ?_
  refine R_iload_n rfl rfl ?_
  refine R_bipush (y := nI 19) rfl (by decide) ?_
  refine R_icF rfl (by first | assumption | exact icF (by decide) | exact ic_F (by omega) (by omega) (by simp only [icN, not_true_eq_false, not_false_eq_true] <;> omega) | exact ic_F0 (by omega) (by simp only [icN, not_true_eq_false, not_false_eq_true] <;> omega)) ?_
  refine R_aload_n rfl rfl ?_
  refine R_iload_n rfl rfl ?_
  refine R_iload_n rfl rfl ?_
  refine R_virt rfl rfl rfl rfl rfl rfl rfl (Nat.le_of_ble_eq_true rfl) (fun _ q => by cases q) (hX) ?_
  try refine R_top (y := nI _) (by assumption) ?_
  exact R_iret rfl rfl (by first | trivial | exact Or.inl rfl | exact Or.inr rfl | assumption) ⟨rfl, rfl⟩
theorem r_sim11 {d : Nat} {M : Mem} {a w p f q b s : Nat} (ha : M 10 0 = nI a) (hw : M 5 0 = nI w) (haw : a < w) (hw2 : w ≤ 2000) (hB : M 4 a = nI b) (hb2 : b ≤ 15) (hp : M 14 0 = nI p) (hp1 : p ≤ 1000) (hf : M 22 0 = nI f) (hf0 : 0 < f) (hf1 : f ≤ 200) (hq : M 15 (f - 1) = nI q) (hqp : q ≤ p) (ho : M 2 a = nI 11) (hen : wnt 11 b ≤ p - q) {v : Int32} {M' : Mem} (hX : CalR (d + 6) j_X9_simple [.ref 0, .int (nI 11), .int (M 3 a)] M (some (.int v)) M') : CalR (d + 7) j_X9_oneStep [.ref 0] M (some (.int v)) M' := by
  have hen : 2 ≤ p - q := hen
  have hwn : nI (wnt 11 b) = nI 2 := rfl
  refine CalR_of (md := md_X9_oneStep) (d := d + 6) rfl (Nat.le_of_ble_eq_true rfl) ?_
  show WR (CalR (d + 6)) t_X9_oneStep 9 (some .int) _ 0 [(0, .ref 0)] [] _
  refine R_aload_n rfl rfl ?_
  refine R_getI rfl rfl (Or.inl rfl) ?_
  try refine R_top (y := nI _) (by assumption) ?_
  refine R_aload_n rfl rfl ?_
  refine R_getI rfl rfl (Or.inl rfl) ?_
  try refine R_top (y := nI _) (by assumption) ?_
  refine R_icF rfl (by first | assumption | exact icF (by decide) | exact ic_F (by omega) (by omega) (by simp only [icN, not_true_eq_false, not_false_eq_true] <;> omega) | exact ic_F0 (by omega) (by simp only [icN, not_true_eq_false, not_false_eq_true] <;> omega)) ?_
  refine R_aload_n rfl rfl ?_
  refine R_getA rfl rfl (Or.inl rfl) ?_
  refine R_aload_n rfl rfl ?_
  refine R_getI rfl rfl (Or.inl rfl) ?_
  try refine R_top (y := nI _) (by assumption) ?_
  refine R_iald rfl rfl rfl (show _ < 2000 from by omega) ?_
  try refine R_top (y := nI _) (by assumption) ?_
  refine R_ifT (pc' := 39) rfl rfl (by first | assumption | exact icT (by decide) | exact ic_T (by omega) (by omega) (by simp only [icN, not_true_eq_false, not_false_eq_true] <;> omega) | exact ic_T0 (by omega) (by simp only [icN, not_true_eq_false, not_false_eq_true] <;> omega)) ?_
  refine R_aload_n rfl rfl ?_
  refine R_getA rfl rfl (Or.inl rfl) ?_
  refine R_aload_n rfl rfl ?_
  refine R_getI rfl rfl (Or.inl rfl) ?_
  try refine R_top (y := nI _) (by assumption) ?_
  refine R_iald rfl rfl rfl (show _ < 2000 from by omega) ?_
  try refine R_top (y := nI _) (by assumption) ?_
  refine R_istore_n (lv' := [(1, _), (0, _)]) rfl rfl ?_
  refine R_aload_n rfl rfl ?_
  refine R_getA rfl rfl (Or.inl rfl) ?_
  refine R_aload_n rfl rfl ?_
  refine R_getI rfl rfl (Or.inl rfl) ?_
  try refine R_top (y := nI _) (by assumption) ?_
  refine R_iald rfl rfl rfl (show _ < 2000 from by omega) ?_
  try refine R_top (y := nI _) (by assumption) ?_
  refine R_istore_n (lv' := [(2, _), (1, _), (0, _)]) rfl rfl ?_
  refine R_aload_n rfl rfl ?_
  refine R_getI rfl rfl (Or.inl rfl) ?_
  try refine R_top (y := nI _) (by assumption) ?_
  refine R_aload_n rfl rfl ?_
  refine R_getA rfl rfl (Or.inl rfl) ?_
  refine R_aload_n rfl rfl ?_
  refine R_getI rfl rfl (Or.inl rfl) ?_
  try refine R_top (y := nI _) (by assumption) ?_
  refine R_iconst (y := nI 1) rfl (by decide) ?_
  first | refine R_isubN rfl (by omega) ?_ | refine R_isub rfl ?_
  refine R_iald rfl rfl rfl (show _ < 200 from by omega) ?_
  try refine R_top (y := nI _) (by assumption) ?_
  first | refine R_isubN rfl (by omega) ?_ | refine R_isub rfl ?_
  refine R_iload_n rfl rfl ?_
  refine R_aload_n rfl rfl ?_
  refine R_getA rfl rfl (Or.inl rfl) ?_
  refine R_aload_n rfl rfl ?_
  refine R_getI rfl rfl (Or.inl rfl) ?_
  try refine R_top (y := nI _) (by assumption) ?_
  refine R_iald rfl rfl rfl (show _ < 2000 from by omega) ?_
  try refine R_top (y := nI _) (by assumption) ?_
  refine R_stat rfl rfl rfl (Nat.le_of_ble_eq_true rfl) rfl rfl (Nat.le_of_ble_eq_true rfl) (fun _ q => by cases q) (r_wants11) ?_
  try refine R_top (y := nI _) (by assumption) ?_
  refine R_icT (pc' := 97) rfl rfl (by first | assumption | exact icT (by decide) | exact ic_T (by omega) (by omega) (by simp only [icN, not_true_eq_false, not_false_eq_true] <;> omega) | exact ic_T0 (by omega) (by simp only [icN, not_true_eq_false, not_false_eq_true] <;> omega)) ?_
  refine R_iload_n rfl rfl ?_
  refine R_bipush (y := nI 19) rfl (by decide) ?_
  refine R_icF rfl (by first | assumption | exact icF (by decide) | exact ic_F (by omega) (by omega) (by simp only [icN, not_true_eq_false, not_false_eq_true] <;> omega) | exact ic_F0 (by omega) (by simp only [icN, not_true_eq_false, not_false_eq_true] <;> omega)) ?_
  refine R_aload_n rfl rfl ?_
  refine R_iload_n rfl rfl ?_
  refine R_iload_n rfl rfl ?_
  refine R_virt rfl rfl rfl rfl rfl rfl rfl (Nat.le_of_ble_eq_true rfl) (fun _ q => by cases q) (hX) ?_
  try refine R_top (y := nI _) (by assumption) ?_
  exact R_iret rfl rfl (by first | trivial | exact Or.inl rfl | exact Or.inr rfl | assumption) ⟨rfl, rfl⟩
theorem r_sim12 {d : Nat} {M : Mem} {a w p f q b s : Nat} (ha : M 10 0 = nI a) (hw : M 5 0 = nI w) (haw : a < w) (hw2 : w ≤ 2000) (hB : M 4 a = nI b) (hb2 : b ≤ 15) (hp : M 14 0 = nI p) (hp1 : p ≤ 1000) (hf : M 22 0 = nI f) (hf0 : 0 < f) (hf1 : f ≤ 200) (hq : M 15 (f - 1) = nI q) (hqp : q ≤ p) (ho : M 2 a = nI 12) (hen : wnt 12 b ≤ p - q) {v : Int32} {M' : Mem} (hX : CalR (d + 6) j_X9_simple [.ref 0, .int (nI 12), .int (M 3 a)] M (some (.int v)) M') : CalR (d + 7) j_X9_oneStep [.ref 0] M (some (.int v)) M' := by
  have hen : 2 ≤ p - q := hen
  have hwn : nI (wnt 12 b) = nI 2 := rfl
  refine CalR_of (md := md_X9_oneStep) (d := d + 6) rfl (Nat.le_of_ble_eq_true rfl) ?_
  show WR (CalR (d + 6)) t_X9_oneStep 9 (some .int) _ 0 [(0, .ref 0)] [] _
  refine R_aload_n rfl rfl ?_
  refine R_getI rfl rfl (Or.inl rfl) ?_
  try refine R_top (y := nI _) (by assumption) ?_
  refine R_aload_n rfl rfl ?_
  refine R_getI rfl rfl (Or.inl rfl) ?_
  try refine R_top (y := nI _) (by assumption) ?_
  refine R_icF rfl (by first | assumption | exact icF (by decide) | exact ic_F (by omega) (by omega) (by simp only [icN, not_true_eq_false, not_false_eq_true] <;> omega) | exact ic_F0 (by omega) (by simp only [icN, not_true_eq_false, not_false_eq_true] <;> omega)) ?_
  refine R_aload_n rfl rfl ?_
  refine R_getA rfl rfl (Or.inl rfl) ?_
  refine R_aload_n rfl rfl ?_
  refine R_getI rfl rfl (Or.inl rfl) ?_
  try refine R_top (y := nI _) (by assumption) ?_
  refine R_iald rfl rfl rfl (show _ < 2000 from by omega) ?_
  try refine R_top (y := nI _) (by assumption) ?_
  refine R_ifT (pc' := 39) rfl rfl (by first | assumption | exact icT (by decide) | exact ic_T (by omega) (by omega) (by simp only [icN, not_true_eq_false, not_false_eq_true] <;> omega) | exact ic_T0 (by omega) (by simp only [icN, not_true_eq_false, not_false_eq_true] <;> omega)) ?_
  refine R_aload_n rfl rfl ?_
  refine R_getA rfl rfl (Or.inl rfl) ?_
  refine R_aload_n rfl rfl ?_
  refine R_getI rfl rfl (Or.inl rfl) ?_
  try refine R_top (y := nI _) (by assumption) ?_
  refine R_iald rfl rfl rfl (show _ < 2000 from by omega) ?_
  try refine R_top (y := nI _) (by assumption) ?_
  refine R_istore_n (lv' := [(1, _), (0, _)]) rfl rfl ?_
  refine R_aload_n rfl rfl ?_
  refine R_getA rfl rfl (Or.inl rfl) ?_
  refine R_aload_n rfl rfl ?_
  refine R_getI rfl rfl (Or.inl rfl) ?_
  try refine R_top (y := nI _) (by assumption) ?_
  refine R_iald rfl rfl rfl (show _ < 2000 from by omega) ?_
  try refine R_top (y := nI _) (by assumption) ?_
  refine R_istore_n (lv' := [(2, _), (1, _), (0, _)]) rfl rfl ?_
  refine R_aload_n rfl rfl ?_
  refine R_getI rfl rfl (Or.inl rfl) ?_
  try refine R_top (y := nI _) (by assumption) ?_
  refine R_aload_n rfl rfl ?_
  refine R_getA rfl rfl (Or.inl rfl) ?_
  refine R_aload_n rfl rfl ?_
  refine R_getI rfl rfl (Or.inl rfl) ?_
  try refine R_top (y := nI _) (by assumption) ?_
  refine R_iconst (y := nI 1) rfl (by decide) ?_
  first | refine R_isubN rfl (by omega) ?_ | refine R_isub rfl ?_
  refine R_iald rfl rfl rfl (show _ < 200 from by omega) ?_
  try refine R_top (y := nI _) (by assumption) ?_
  first | refine R_isubN rfl (by omega) ?_ | refine R_isub rfl ?_
  refine R_iload_n rfl rfl ?_
  refine R_aload_n rfl rfl ?_
  refine R_getA rfl rfl (Or.inl rfl) ?_
  refine R_aload_n rfl rfl ?_
  refine R_getI rfl rfl (Or.inl rfl) ?_
  try refine R_top (y := nI _) (by assumption) ?_
  refine R_iald rfl rfl rfl (show _ < 2000 from by omega) ?_
  try refine R_top (y := nI _) (by assumption) ?_
  refine R_stat rfl rfl rfl (Nat.le_of_ble_eq_true rfl) rfl rfl (Nat.le_of_ble_eq_true rfl) (fun _ q => by cases q) (r_wants12) ?_
  try refine R_top (y := nI _) (by assumption) ?_
  refine R_icT (pc' := 97) rfl rfl (by first | assumption | exact icT (by decide) | exact ic_T (by omega) (by omega) (by simp only [icN, not_true_eq_false, not_false_eq_true] <;> omega) | exact ic_T0 (by omega) (by simp only [icN, not_true_eq_false, not_false_eq_true] <;> omega)) ?_
  refine R_iload_n rfl rfl ?_
  refine R_bipush (y := nI 19) rfl (by decide) ?_
  refine R_icF rfl (by first | assumption | exact icF (by decide) | exact ic_F (by omega) (by omega) (by simp only [icN, not_true_eq_false, not_false_eq_true] <;> omega) | exact ic_F0 (by omega) (by simp only [icN, not_true_eq_false, not_false_eq_true] <;> omega)) ?_
  refine R_aload_n rfl rfl ?_
  refine R_iload_n rfl rfl ?_
  refine R_iload_n rfl rfl ?_
  refine R_virt rfl rfl rfl rfl rfl rfl rfl (Nat.le_of_ble_eq_true rfl) (fun _ q => by cases q) (hX) ?_
  try refine R_top (y := nI _) (by assumption) ?_
  exact R_iret rfl rfl (by first | trivial | exact Or.inl rfl | exact Or.inr rfl | assumption) ⟨rfl, rfl⟩
theorem r_sim13 {d : Nat} {M : Mem} {a w p f q b s : Nat} (ha : M 10 0 = nI a) (hw : M 5 0 = nI w) (haw : a < w) (hw2 : w ≤ 2000) (hB : M 4 a = nI b) (hb2 : b ≤ 15) (hp : M 14 0 = nI p) (hp1 : p ≤ 1000) (hf : M 22 0 = nI f) (hf0 : 0 < f) (hf1 : f ≤ 200) (hq : M 15 (f - 1) = nI q) (hqp : q ≤ p) (ho : M 2 a = nI 13) (hen : wnt 13 b ≤ p - q) {v : Int32} {M' : Mem} (hX : CalR (d + 6) j_X9_simple [.ref 0, .int (nI 13), .int (M 3 a)] M (some (.int v)) M') : CalR (d + 7) j_X9_oneStep [.ref 0] M (some (.int v)) M' := by
  have hen : 0 ≤ p - q := hen
  have hwn : nI (wnt 13 b) = nI 0 := rfl
  refine CalR_of (md := md_X9_oneStep) (d := d + 6) rfl (Nat.le_of_ble_eq_true rfl) ?_
  show WR (CalR (d + 6)) t_X9_oneStep 9 (some .int) _ 0 [(0, .ref 0)] [] _
  refine R_aload_n rfl rfl ?_
  refine R_getI rfl rfl (Or.inl rfl) ?_
  try refine R_top (y := nI _) (by assumption) ?_
  refine R_aload_n rfl rfl ?_
  refine R_getI rfl rfl (Or.inl rfl) ?_
  try refine R_top (y := nI _) (by assumption) ?_
  refine R_icF rfl (by first | assumption | exact icF (by decide) | exact ic_F (by omega) (by omega) (by simp only [icN, not_true_eq_false, not_false_eq_true] <;> omega) | exact ic_F0 (by omega) (by simp only [icN, not_true_eq_false, not_false_eq_true] <;> omega)) ?_
  refine R_aload_n rfl rfl ?_
  refine R_getA rfl rfl (Or.inl rfl) ?_
  refine R_aload_n rfl rfl ?_
  refine R_getI rfl rfl (Or.inl rfl) ?_
  try refine R_top (y := nI _) (by assumption) ?_
  refine R_iald rfl rfl rfl (show _ < 2000 from by omega) ?_
  try refine R_top (y := nI _) (by assumption) ?_
  refine R_ifT (pc' := 39) rfl rfl (by first | assumption | exact icT (by decide) | exact ic_T (by omega) (by omega) (by simp only [icN, not_true_eq_false, not_false_eq_true] <;> omega) | exact ic_T0 (by omega) (by simp only [icN, not_true_eq_false, not_false_eq_true] <;> omega)) ?_
  refine R_aload_n rfl rfl ?_
  refine R_getA rfl rfl (Or.inl rfl) ?_
  refine R_aload_n rfl rfl ?_
  refine R_getI rfl rfl (Or.inl rfl) ?_
  try refine R_top (y := nI _) (by assumption) ?_
  refine R_iald rfl rfl rfl (show _ < 2000 from by omega) ?_
  try refine R_top (y := nI _) (by assumption) ?_
  refine R_istore_n (lv' := [(1, _), (0, _)]) rfl rfl ?_
  refine R_aload_n rfl rfl ?_
  refine R_getA rfl rfl (Or.inl rfl) ?_
  refine R_aload_n rfl rfl ?_
  refine R_getI rfl rfl (Or.inl rfl) ?_
  try refine R_top (y := nI _) (by assumption) ?_
  refine R_iald rfl rfl rfl (show _ < 2000 from by omega) ?_
  try refine R_top (y := nI _) (by assumption) ?_
  refine R_istore_n (lv' := [(2, _), (1, _), (0, _)]) rfl rfl ?_
  refine R_aload_n rfl rfl ?_
  refine R_getI rfl rfl (Or.inl rfl) ?_
  try refine R_top (y := nI _) (by assumption) ?_
  refine R_aload_n rfl rfl ?_
  refine R_getA rfl rfl (Or.inl rfl) ?_
  refine R_aload_n rfl rfl ?_
  refine R_getI rfl rfl (Or.inl rfl) ?_
  try refine R_top (y := nI _) (by assumption) ?_
  refine R_iconst (y := nI 1) rfl (by decide) ?_
  first | refine R_isubN rfl (by omega) ?_ | refine R_isub rfl ?_
  refine R_iald rfl rfl rfl (show _ < 200 from by omega) ?_
  try refine R_top (y := nI _) (by assumption) ?_
  first | refine R_isubN rfl (by omega) ?_ | refine R_isub rfl ?_
  refine R_iload_n rfl rfl ?_
  refine R_aload_n rfl rfl ?_
  refine R_getA rfl rfl (Or.inl rfl) ?_
  refine R_aload_n rfl rfl ?_
  refine R_getI rfl rfl (Or.inl rfl) ?_
  try refine R_top (y := nI _) (by assumption) ?_
  refine R_iald rfl rfl rfl (show _ < 2000 from by omega) ?_
  try refine R_top (y := nI _) (by assumption) ?_
  refine R_stat rfl rfl rfl (Nat.le_of_ble_eq_true rfl) rfl rfl (Nat.le_of_ble_eq_true rfl) (fun _ q => by cases q) (r_wants13) ?_
  try refine R_top (y := nI _) (by assumption) ?_
  refine R_icT (pc' := 97) rfl rfl (by first | assumption | exact icT (by decide) | exact ic_T (by omega) (by omega) (by simp only [icN, not_true_eq_false, not_false_eq_true] <;> omega) | exact ic_T0 (by omega) (by simp only [icN, not_true_eq_false, not_false_eq_true] <;> omega)) ?_
  refine R_iload_n rfl rfl ?_
  refine R_bipush (y := nI 19) rfl (by decide) ?_
  refine R_icF rfl (by first | assumption | exact icF (by decide) | exact ic_F (by omega) (by omega) (by simp only [icN, not_true_eq_false, not_false_eq_true] <;> omega) | exact ic_F0 (by omega) (by simp only [icN, not_true_eq_false, not_false_eq_true] <;> omega)) ?_
  refine R_aload_n rfl rfl ?_
  refine R_iload_n rfl rfl ?_
  refine R_iload_n rfl rfl ?_
  refine R_virt rfl rfl rfl rfl rfl rfl rfl (Nat.le_of_ble_eq_true rfl) (fun _ q => by cases q) (hX) ?_
  try refine R_top (y := nI _) (by assumption) ?_
  exact R_iret rfl rfl (by first | trivial | exact Or.inl rfl | exact Or.inr rfl | assumption) ⟨rfl, rfl⟩
theorem r_sim14 {d : Nat} {M : Mem} {a w p f q b s : Nat} (ha : M 10 0 = nI a) (hw : M 5 0 = nI w) (haw : a < w) (hw2 : w ≤ 2000) (hB : M 4 a = nI b) (hb2 : b ≤ 15) (hp : M 14 0 = nI p) (hp1 : p ≤ 1000) (hf : M 22 0 = nI f) (hf0 : 0 < f) (hf1 : f ≤ 200) (hq : M 15 (f - 1) = nI q) (hqp : q ≤ p) (ho : M 2 a = nI 14) (hen : wnt 14 b ≤ p - q) {v : Int32} {M' : Mem} (hX : CalR (d + 6) j_X9_simple [.ref 0, .int (nI 14), .int (M 3 a)] M (some (.int v)) M') : CalR (d + 7) j_X9_oneStep [.ref 0] M (some (.int v)) M' := by
  have hen : 1 ≤ p - q := hen
  have hwn : nI (wnt 14 b) = nI 1 := rfl
  refine CalR_of (md := md_X9_oneStep) (d := d + 6) rfl (Nat.le_of_ble_eq_true rfl) ?_
  show WR (CalR (d + 6)) t_X9_oneStep 9 (some .int) _ 0 [(0, .ref 0)] [] _
  refine R_aload_n rfl rfl ?_
  refine R_getI rfl rfl (Or.inl rfl) ?_
  try refine R_top (y := nI _) (by assumption) ?_
  refine R_aload_n rfl rfl ?_
  refine R_getI rfl rfl (Or.inl rfl) ?_
  try refine R_top (y := nI _) (by assumption) ?_
  refine R_icF rfl (by first | assumption | exact icF (by decide) | exact ic_F (by omega) (by omega) (by simp only [icN, not_true_eq_false, not_false_eq_true] <;> omega) | exact ic_F0 (by omega) (by simp only [icN, not_true_eq_false, not_false_eq_true] <;> omega)) ?_
  refine R_aload_n rfl rfl ?_
  refine R_getA rfl rfl (Or.inl rfl) ?_
  refine R_aload_n rfl rfl ?_
  refine R_getI rfl rfl (Or.inl rfl) ?_
  try refine R_top (y := nI _) (by assumption) ?_
  refine R_iald rfl rfl rfl (show _ < 2000 from by omega) ?_
  try refine R_top (y := nI _) (by assumption) ?_
  refine R_ifT (pc' := 39) rfl rfl (by first | assumption | exact icT (by decide) | exact ic_T (by omega) (by omega) (by simp only [icN, not_true_eq_false, not_false_eq_true] <;> omega) | exact ic_T0 (by omega) (by simp only [icN, not_true_eq_false, not_false_eq_true] <;> omega)) ?_
  refine R_aload_n rfl rfl ?_
  refine R_getA rfl rfl (Or.inl rfl) ?_
  refine R_aload_n rfl rfl ?_
  refine R_getI rfl rfl (Or.inl rfl) ?_
  try refine R_top (y := nI _) (by assumption) ?_
  refine R_iald rfl rfl rfl (show _ < 2000 from by omega) ?_
  try refine R_top (y := nI _) (by assumption) ?_
  refine R_istore_n (lv' := [(1, _), (0, _)]) rfl rfl ?_
  refine R_aload_n rfl rfl ?_
  refine R_getA rfl rfl (Or.inl rfl) ?_
  refine R_aload_n rfl rfl ?_
  refine R_getI rfl rfl (Or.inl rfl) ?_
  try refine R_top (y := nI _) (by assumption) ?_
  refine R_iald rfl rfl rfl (show _ < 2000 from by omega) ?_
  try refine R_top (y := nI _) (by assumption) ?_
  refine R_istore_n (lv' := [(2, _), (1, _), (0, _)]) rfl rfl ?_
  refine R_aload_n rfl rfl ?_
  refine R_getI rfl rfl (Or.inl rfl) ?_
  try refine R_top (y := nI _) (by assumption) ?_
  refine R_aload_n rfl rfl ?_
  refine R_getA rfl rfl (Or.inl rfl) ?_
  refine R_aload_n rfl rfl ?_
  refine R_getI rfl rfl (Or.inl rfl) ?_
  try refine R_top (y := nI _) (by assumption) ?_
  refine R_iconst (y := nI 1) rfl (by decide) ?_
  first | refine R_isubN rfl (by omega) ?_ | refine R_isub rfl ?_
  refine R_iald rfl rfl rfl (show _ < 200 from by omega) ?_
  try refine R_top (y := nI _) (by assumption) ?_
  first | refine R_isubN rfl (by omega) ?_ | refine R_isub rfl ?_
  refine R_iload_n rfl rfl ?_
  refine R_aload_n rfl rfl ?_
  refine R_getA rfl rfl (Or.inl rfl) ?_
  refine R_aload_n rfl rfl ?_
  refine R_getI rfl rfl (Or.inl rfl) ?_
  try refine R_top (y := nI _) (by assumption) ?_
  refine R_iald rfl rfl rfl (show _ < 2000 from by omega) ?_
  try refine R_top (y := nI _) (by assumption) ?_
  refine R_stat rfl rfl rfl (Nat.le_of_ble_eq_true rfl) rfl rfl (Nat.le_of_ble_eq_true rfl) (fun _ q => by cases q) (r_wants14) ?_
  try refine R_top (y := nI _) (by assumption) ?_
  refine R_icT (pc' := 97) rfl rfl (by first | assumption | exact icT (by decide) | exact ic_T (by omega) (by omega) (by simp only [icN, not_true_eq_false, not_false_eq_true] <;> omega) | exact ic_T0 (by omega) (by simp only [icN, not_true_eq_false, not_false_eq_true] <;> omega)) ?_
  refine R_iload_n rfl rfl ?_
  refine R_bipush (y := nI 19) rfl (by decide) ?_
  refine R_icF rfl (by first | assumption | exact icF (by decide) | exact ic_F (by omega) (by omega) (by simp only [icN, not_true_eq_false, not_false_eq_true] <;> omega) | exact ic_F0 (by omega) (by simp only [icN, not_true_eq_false, not_false_eq_true] <;> omega)) ?_
  refine R_aload_n rfl rfl ?_
  refine R_iload_n rfl rfl ?_
  refine R_iload_n rfl rfl ?_
  refine R_virt rfl rfl rfl rfl rfl rfl rfl (Nat.le_of_ble_eq_true rfl) (fun _ q => by cases q) (hX) ?_
  try refine R_top (y := nI _) (by assumption) ?_
  exact R_iret rfl rfl (by first | trivial | exact Or.inl rfl | exact Or.inr rfl | assumption) ⟨rfl, rfl⟩
theorem r_sim15 {d : Nat} {M : Mem} {a w p f q b s : Nat} (ha : M 10 0 = nI a) (hw : M 5 0 = nI w) (haw : a < w) (hw2 : w ≤ 2000) (hB : M 4 a = nI b) (hb2 : b ≤ 15) (hp : M 14 0 = nI p) (hp1 : p ≤ 1000) (hf : M 22 0 = nI f) (hf0 : 0 < f) (hf1 : f ≤ 200) (hq : M 15 (f - 1) = nI q) (hqp : q ≤ p) (ho : M 2 a = nI 15) (hen : wnt 15 b ≤ p - q) {v : Int32} {M' : Mem} (hX : CalR (d + 6) j_X9_simple [.ref 0, .int (nI 15), .int (M 3 a)] M (some (.int v)) M') : CalR (d + 7) j_X9_oneStep [.ref 0] M (some (.int v)) M' := by
  have hen : 0 ≤ p - q := hen
  have hwn : nI (wnt 15 b) = nI 0 := rfl
  refine CalR_of (md := md_X9_oneStep) (d := d + 6) rfl (Nat.le_of_ble_eq_true rfl) ?_
  show WR (CalR (d + 6)) t_X9_oneStep 9 (some .int) _ 0 [(0, .ref 0)] [] _
  refine R_aload_n rfl rfl ?_
  refine R_getI rfl rfl (Or.inl rfl) ?_
  try refine R_top (y := nI _) (by assumption) ?_
  refine R_aload_n rfl rfl ?_
  refine R_getI rfl rfl (Or.inl rfl) ?_
  try refine R_top (y := nI _) (by assumption) ?_
  refine R_icF rfl (by first | assumption | exact icF (by decide) | exact ic_F (by omega) (by omega) (by simp only [icN, not_true_eq_false, not_false_eq_true] <;> omega) | exact ic_F0 (by omega) (by simp only [icN, not_true_eq_false, not_false_eq_true] <;> omega)) ?_
  refine R_aload_n rfl rfl ?_
  refine R_getA rfl rfl (Or.inl rfl) ?_
  refine R_aload_n rfl rfl ?_
  refine R_getI rfl rfl (Or.inl rfl) ?_
  try refine R_top (y := nI _) (by assumption) ?_
  refine R_iald rfl rfl rfl (show _ < 2000 from by omega) ?_
  try refine R_top (y := nI _) (by assumption) ?_
  refine R_ifT (pc' := 39) rfl rfl (by first | assumption | exact icT (by decide) | exact ic_T (by omega) (by omega) (by simp only [icN, not_true_eq_false, not_false_eq_true] <;> omega) | exact ic_T0 (by omega) (by simp only [icN, not_true_eq_false, not_false_eq_true] <;> omega)) ?_
  refine R_aload_n rfl rfl ?_
  refine R_getA rfl rfl (Or.inl rfl) ?_
  refine R_aload_n rfl rfl ?_
  refine R_getI rfl rfl (Or.inl rfl) ?_
  try refine R_top (y := nI _) (by assumption) ?_
  refine R_iald rfl rfl rfl (show _ < 2000 from by omega) ?_
  try refine R_top (y := nI _) (by assumption) ?_
  refine R_istore_n (lv' := [(1, _), (0, _)]) rfl rfl ?_
  refine R_aload_n rfl rfl ?_
  refine R_getA rfl rfl (Or.inl rfl) ?_
  refine R_aload_n rfl rfl ?_
  refine R_getI rfl rfl (Or.inl rfl) ?_
  try refine R_top (y := nI _) (by assumption) ?_
  refine R_iald rfl rfl rfl (show _ < 2000 from by omega) ?_
  try refine R_top (y := nI _) (by assumption) ?_
  refine R_istore_n (lv' := [(2, _), (1, _), (0, _)]) rfl rfl ?_
  refine R_aload_n rfl rfl ?_
  refine R_getI rfl rfl (Or.inl rfl) ?_
  try refine R_top (y := nI _) (by assumption) ?_
  refine R_aload_n rfl rfl ?_
  refine R_getA rfl rfl (Or.inl rfl) ?_
  refine R_aload_n rfl rfl ?_
  refine R_getI rfl rfl (Or.inl rfl) ?_
  try refine R_top (y := nI _) (by assumption) ?_
  refine R_iconst (y := nI 1) rfl (by decide) ?_
  first | refine R_isubN rfl (by omega) ?_ | refine R_isub rfl ?_
  refine R_iald rfl rfl rfl (show _ < 200 from by omega) ?_
  try refine R_top (y := nI _) (by assumption) ?_
  first | refine R_isubN rfl (by omega) ?_ | refine R_isub rfl ?_
  refine R_iload_n rfl rfl ?_
  refine R_aload_n rfl rfl ?_
  refine R_getA rfl rfl (Or.inl rfl) ?_
  refine R_aload_n rfl rfl ?_
  refine R_getI rfl rfl (Or.inl rfl) ?_
  try refine R_top (y := nI _) (by assumption) ?_
  refine R_iald rfl rfl rfl (show _ < 2000 from by omega) ?_
  try refine R_top (y := nI _) (by assumption) ?_
  refine R_stat rfl rfl rfl (Nat.le_of_ble_eq_true rfl) rfl rfl (Nat.le_of_ble_eq_true rfl) (fun _ q => by cases q) (r_wants15) ?_
  try refine R_top (y := nI _) (by assumption) ?_
  refine R_icT (pc' := 97) rfl rfl (by first | assumption | exact icT (by decide) | exact ic_T (by omega) (by omega) (by simp only [icN, not_true_eq_false, not_false_eq_true] <;> omega) | exact ic_T0 (by omega) (by simp only [icN, not_true_eq_false, not_false_eq_true] <;> omega)) ?_
  refine R_iload_n rfl rfl ?_
  refine R_bipush (y := nI 19) rfl (by decide) ?_
  refine R_icF rfl (by first | assumption | exact icF (by decide) | exact ic_F (by omega) (by omega) (by simp only [icN, not_true_eq_false, not_false_eq_true] <;> omega) | exact ic_F0 (by omega) (by simp only [icN, not_true_eq_false, not_false_eq_true] <;> omega)) ?_
  refine R_aload_n rfl rfl ?_
  refine R_iload_n rfl rfl ?_
  refine R_iload_n rfl rfl ?_
  refine R_virt rfl rfl rfl rfl rfl rfl rfl (Nat.le_of_ble_eq_true rfl) (fun _ q => by cases q) (hX) ?_
  try refine R_top (y := nI _) (by assumption) ?_
  exact R_iret rfl rfl (by first | trivial | exact Or.inl rfl | exact Or.inr rfl | assumption) ⟨rfl, rfl⟩
theorem r_sim16 {d : Nat} {M : Mem} {a w p f q b s : Nat} (ha : M 10 0 = nI a) (hw : M 5 0 = nI w) (haw : a < w) (hw2 : w ≤ 2000) (hB : M 4 a = nI b) (hb2 : b ≤ 15) (hp : M 14 0 = nI p) (hp1 : p ≤ 1000) (hf : M 22 0 = nI f) (hf0 : 0 < f) (hf1 : f ≤ 200) (hq : M 15 (f - 1) = nI q) (hqp : q ≤ p) (ho : M 2 a = nI 16) (hen : wnt 16 b ≤ p - q) {v : Int32} {M' : Mem} (hX : CalR (d + 6) j_X9_simple [.ref 0, .int (nI 16), .int (M 3 a)] M (some (.int v)) M') : CalR (d + 7) j_X9_oneStep [.ref 0] M (some (.int v)) M' := by
  have hen : 1 ≤ p - q := hen
  have hwn : nI (wnt 16 b) = nI 1 := rfl
  refine CalR_of (md := md_X9_oneStep) (d := d + 6) rfl (Nat.le_of_ble_eq_true rfl) ?_
  show WR (CalR (d + 6)) t_X9_oneStep 9 (some .int) _ 0 [(0, .ref 0)] [] _
  refine R_aload_n rfl rfl ?_
  refine R_getI rfl rfl (Or.inl rfl) ?_
  try refine R_top (y := nI _) (by assumption) ?_
  refine R_aload_n rfl rfl ?_
  refine R_getI rfl rfl (Or.inl rfl) ?_
  try refine R_top (y := nI _) (by assumption) ?_
  refine R_icF rfl (by first | assumption | exact icF (by decide) | exact ic_F (by omega) (by omega) (by simp only [icN, not_true_eq_false, not_false_eq_true] <;> omega) | exact ic_F0 (by omega) (by simp only [icN, not_true_eq_false, not_false_eq_true] <;> omega)) ?_
  refine R_aload_n rfl rfl ?_
  refine R_getA rfl rfl (Or.inl rfl) ?_
  refine R_aload_n rfl rfl ?_
  refine R_getI rfl rfl (Or.inl rfl) ?_
  try refine R_top (y := nI _) (by assumption) ?_
  refine R_iald rfl rfl rfl (show _ < 2000 from by omega) ?_
  try refine R_top (y := nI _) (by assumption) ?_
  refine R_ifT (pc' := 39) rfl rfl (by first | assumption | exact icT (by decide) | exact ic_T (by omega) (by omega) (by simp only [icN, not_true_eq_false, not_false_eq_true] <;> omega) | exact ic_T0 (by omega) (by simp only [icN, not_true_eq_false, not_false_eq_true] <;> omega)) ?_
  refine R_aload_n rfl rfl ?_
  refine R_getA rfl rfl (Or.inl rfl) ?_
  refine R_aload_n rfl rfl ?_
  refine R_getI rfl rfl (Or.inl rfl) ?_
  try refine R_top (y := nI _) (by assumption) ?_
  refine R_iald rfl rfl rfl (show _ < 2000 from by omega) ?_
  try refine R_top (y := nI _) (by assumption) ?_
  refine R_istore_n (lv' := [(1, _), (0, _)]) rfl rfl ?_
  refine R_aload_n rfl rfl ?_
  refine R_getA rfl rfl (Or.inl rfl) ?_
  refine R_aload_n rfl rfl ?_
  refine R_getI rfl rfl (Or.inl rfl) ?_
  try refine R_top (y := nI _) (by assumption) ?_
  refine R_iald rfl rfl rfl (show _ < 2000 from by omega) ?_
  try refine R_top (y := nI _) (by assumption) ?_
  refine R_istore_n (lv' := [(2, _), (1, _), (0, _)]) rfl rfl ?_
  refine R_aload_n rfl rfl ?_
  refine R_getI rfl rfl (Or.inl rfl) ?_
  try refine R_top (y := nI _) (by assumption) ?_
  refine R_aload_n rfl rfl ?_
  refine R_getA rfl rfl (Or.inl rfl) ?_
  refine R_aload_n rfl rfl ?_
  refine R_getI rfl rfl (Or.inl rfl) ?_
  try refine R_top (y := nI _) (by assumption) ?_
  refine R_iconst (y := nI 1) rfl (by decide) ?_
  first | refine R_isubN rfl (by omega) ?_ | refine R_isub rfl ?_
  refine R_iald rfl rfl rfl (show _ < 200 from by omega) ?_
  try refine R_top (y := nI _) (by assumption) ?_
  first | refine R_isubN rfl (by omega) ?_ | refine R_isub rfl ?_
  refine R_iload_n rfl rfl ?_
  refine R_aload_n rfl rfl ?_
  refine R_getA rfl rfl (Or.inl rfl) ?_
  refine R_aload_n rfl rfl ?_
  refine R_getI rfl rfl (Or.inl rfl) ?_
  try refine R_top (y := nI _) (by assumption) ?_
  refine R_iald rfl rfl rfl (show _ < 2000 from by omega) ?_
  try refine R_top (y := nI _) (by assumption) ?_
  refine R_stat rfl rfl rfl (Nat.le_of_ble_eq_true rfl) rfl rfl (Nat.le_of_ble_eq_true rfl) (fun _ q => by cases q) (r_wants16) ?_
  try refine R_top (y := nI _) (by assumption) ?_
  refine R_icT (pc' := 97) rfl rfl (by first | assumption | exact icT (by decide) | exact ic_T (by omega) (by omega) (by simp only [icN, not_true_eq_false, not_false_eq_true] <;> omega) | exact ic_T0 (by omega) (by simp only [icN, not_true_eq_false, not_false_eq_true] <;> omega)) ?_
  refine R_iload_n rfl rfl ?_
  refine R_bipush (y := nI 19) rfl (by decide) ?_
  refine R_icF rfl (by first | assumption | exact icF (by decide) | exact ic_F (by omega) (by omega) (by simp only [icN, not_true_eq_false, not_false_eq_true] <;> omega) | exact ic_F0 (by omega) (by simp only [icN, not_true_eq_false, not_false_eq_true] <;> omega)) ?_
  refine R_aload_n rfl rfl ?_
  refine R_iload_n rfl rfl ?_
  refine R_iload_n rfl rfl ?_
  refine R_virt rfl rfl rfl rfl rfl rfl rfl (Nat.le_of_ble_eq_true rfl) (fun _ q => by cases q) (hX) ?_
  try refine R_top (y := nI _) (by assumption) ?_
  exact R_iret rfl rfl (by first | trivial | exact Or.inl rfl | exact Or.inr rfl | assumption) ⟨rfl, rfl⟩
theorem r_sim17 {d : Nat} {M : Mem} {a w p f q b s : Nat} (ha : M 10 0 = nI a) (hw : M 5 0 = nI w) (haw : a < w) (hw2 : w ≤ 2000) (hB : M 4 a = nI b) (hb2 : b ≤ 15) (hp : M 14 0 = nI p) (hp1 : p ≤ 1000) (hf : M 22 0 = nI f) (hf0 : 0 < f) (hf1 : f ≤ 200) (hq : M 15 (f - 1) = nI q) (hqp : q ≤ p) (ho : M 2 a = nI 17) (hen : wnt 17 b ≤ p - q) {v : Int32} {M' : Mem} (hX : CalR (d + 6) j_X9_simple [.ref 0, .int (nI 17), .int (M 3 a)] M (some (.int v)) M') : CalR (d + 7) j_X9_oneStep [.ref 0] M (some (.int v)) M' := by
  have hen : 0 ≤ p - q := hen
  have hwn : nI (wnt 17 b) = nI 0 := rfl
  refine CalR_of (md := md_X9_oneStep) (d := d + 6) rfl (Nat.le_of_ble_eq_true rfl) ?_
  show WR (CalR (d + 6)) t_X9_oneStep 9 (some .int) _ 0 [(0, .ref 0)] [] _
  refine R_aload_n rfl rfl ?_
  refine R_getI rfl rfl (Or.inl rfl) ?_
  try refine R_top (y := nI _) (by assumption) ?_
  refine R_aload_n rfl rfl ?_
  refine R_getI rfl rfl (Or.inl rfl) ?_
  try refine R_top (y := nI _) (by assumption) ?_
  refine R_icF rfl (by first | assumption | exact icF (by decide) | exact ic_F (by omega) (by omega) (by simp only [icN, not_true_eq_false, not_false_eq_true] <;> omega) | exact ic_F0 (by omega) (by simp only [icN, not_true_eq_false, not_false_eq_true] <;> omega)) ?_
  refine R_aload_n rfl rfl ?_
  refine R_getA rfl rfl (Or.inl rfl) ?_
  refine R_aload_n rfl rfl ?_
  refine R_getI rfl rfl (Or.inl rfl) ?_
  try refine R_top (y := nI _) (by assumption) ?_
  refine R_iald rfl rfl rfl (show _ < 2000 from by omega) ?_
  try refine R_top (y := nI _) (by assumption) ?_
  refine R_ifT (pc' := 39) rfl rfl (by first | assumption | exact icT (by decide) | exact ic_T (by omega) (by omega) (by simp only [icN, not_true_eq_false, not_false_eq_true] <;> omega) | exact ic_T0 (by omega) (by simp only [icN, not_true_eq_false, not_false_eq_true] <;> omega)) ?_
  refine R_aload_n rfl rfl ?_
  refine R_getA rfl rfl (Or.inl rfl) ?_
  refine R_aload_n rfl rfl ?_
  refine R_getI rfl rfl (Or.inl rfl) ?_
  try refine R_top (y := nI _) (by assumption) ?_
  refine R_iald rfl rfl rfl (show _ < 2000 from by omega) ?_
  try refine R_top (y := nI _) (by assumption) ?_
  refine R_istore_n (lv' := [(1, _), (0, _)]) rfl rfl ?_
  refine R_aload_n rfl rfl ?_
  refine R_getA rfl rfl (Or.inl rfl) ?_
  refine R_aload_n rfl rfl ?_
  refine R_getI rfl rfl (Or.inl rfl) ?_
  try refine R_top (y := nI _) (by assumption) ?_
  refine R_iald rfl rfl rfl (show _ < 2000 from by omega) ?_
  try refine R_top (y := nI _) (by assumption) ?_
  refine R_istore_n (lv' := [(2, _), (1, _), (0, _)]) rfl rfl ?_
  refine R_aload_n rfl rfl ?_
  refine R_getI rfl rfl (Or.inl rfl) ?_
  try refine R_top (y := nI _) (by assumption) ?_
  refine R_aload_n rfl rfl ?_
  refine R_getA rfl rfl (Or.inl rfl) ?_
  refine R_aload_n rfl rfl ?_
  refine R_getI rfl rfl (Or.inl rfl) ?_
  try refine R_top (y := nI _) (by assumption) ?_
  refine R_iconst (y := nI 1) rfl (by decide) ?_
  first | refine R_isubN rfl (by omega) ?_ | refine R_isub rfl ?_
  refine R_iald rfl rfl rfl (show _ < 200 from by omega) ?_
  try refine R_top (y := nI _) (by assumption) ?_
  first | refine R_isubN rfl (by omega) ?_ | refine R_isub rfl ?_
  refine R_iload_n rfl rfl ?_
  refine R_aload_n rfl rfl ?_
  refine R_getA rfl rfl (Or.inl rfl) ?_
  refine R_aload_n rfl rfl ?_
  refine R_getI rfl rfl (Or.inl rfl) ?_
  try refine R_top (y := nI _) (by assumption) ?_
  refine R_iald rfl rfl rfl (show _ < 2000 from by omega) ?_
  try refine R_top (y := nI _) (by assumption) ?_
  refine R_stat rfl rfl rfl (Nat.le_of_ble_eq_true rfl) rfl rfl (Nat.le_of_ble_eq_true rfl) (fun _ q => by cases q) (r_wants17) ?_
  try refine R_top (y := nI _) (by assumption) ?_
  refine R_icT (pc' := 97) rfl rfl (by first | assumption | exact icT (by decide) | exact ic_T (by omega) (by omega) (by simp only [icN, not_true_eq_false, not_false_eq_true] <;> omega) | exact ic_T0 (by omega) (by simp only [icN, not_true_eq_false, not_false_eq_true] <;> omega)) ?_
  refine R_iload_n rfl rfl ?_
  refine R_bipush (y := nI 19) rfl (by decide) ?_
  refine R_icF rfl (by first | assumption | exact icF (by decide) | exact ic_F (by omega) (by omega) (by simp only [icN, not_true_eq_false, not_false_eq_true] <;> omega) | exact ic_F0 (by omega) (by simp only [icN, not_true_eq_false, not_false_eq_true] <;> omega)) ?_
  refine R_aload_n rfl rfl ?_
  refine R_iload_n rfl rfl ?_
  refine R_iload_n rfl rfl ?_
  refine R_virt rfl rfl rfl rfl rfl rfl rfl (Nat.le_of_ble_eq_true rfl) (fun _ q => by cases q) (hX) ?_
  try refine R_top (y := nI _) (by assumption) ?_
  exact R_iret rfl rfl (by first | trivial | exact Or.inl rfl | exact Or.inr rfl | assumption) ⟨rfl, rfl⟩
theorem r_sim18 {d : Nat} {M : Mem} {a w p f q b s : Nat} (ha : M 10 0 = nI a) (hw : M 5 0 = nI w) (haw : a < w) (hw2 : w ≤ 2000) (hB : M 4 a = nI b) (hb2 : b ≤ 15) (hp : M 14 0 = nI p) (hp1 : p ≤ 1000) (hf : M 22 0 = nI f) (hf0 : 0 < f) (hf1 : f ≤ 200) (hq : M 15 (f - 1) = nI q) (hqp : q ≤ p) (ho : M 2 a = nI 18) (hen : wnt 18 b ≤ p - q) {v : Int32} {M' : Mem} (hX : CalR (d + 6) j_X9_simple [.ref 0, .int (nI 18), .int (M 3 a)] M (some (.int v)) M') : CalR (d + 7) j_X9_oneStep [.ref 0] M (some (.int v)) M' := by
  have hen : 1 ≤ p - q := hen
  have hwn : nI (wnt 18 b) = nI 1 := rfl
  refine CalR_of (md := md_X9_oneStep) (d := d + 6) rfl (Nat.le_of_ble_eq_true rfl) ?_
  show WR (CalR (d + 6)) t_X9_oneStep 9 (some .int) _ 0 [(0, .ref 0)] [] _
  refine R_aload_n rfl rfl ?_
  refine R_getI rfl rfl (Or.inl rfl) ?_
  try refine R_top (y := nI _) (by assumption) ?_
  refine R_aload_n rfl rfl ?_
  refine R_getI rfl rfl (Or.inl rfl) ?_
  try refine R_top (y := nI _) (by assumption) ?_
  refine R_icF rfl (by first | assumption | exact icF (by decide) | exact ic_F (by omega) (by omega) (by simp only [icN, not_true_eq_false, not_false_eq_true] <;> omega) | exact ic_F0 (by omega) (by simp only [icN, not_true_eq_false, not_false_eq_true] <;> omega)) ?_
  refine R_aload_n rfl rfl ?_
  refine R_getA rfl rfl (Or.inl rfl) ?_
  refine R_aload_n rfl rfl ?_
  refine R_getI rfl rfl (Or.inl rfl) ?_
  try refine R_top (y := nI _) (by assumption) ?_
  refine R_iald rfl rfl rfl (show _ < 2000 from by omega) ?_
  try refine R_top (y := nI _) (by assumption) ?_
  refine R_ifT (pc' := 39) rfl rfl (by first | assumption | exact icT (by decide) | exact ic_T (by omega) (by omega) (by simp only [icN, not_true_eq_false, not_false_eq_true] <;> omega) | exact ic_T0 (by omega) (by simp only [icN, not_true_eq_false, not_false_eq_true] <;> omega)) ?_
  refine R_aload_n rfl rfl ?_
  refine R_getA rfl rfl (Or.inl rfl) ?_
  refine R_aload_n rfl rfl ?_
  refine R_getI rfl rfl (Or.inl rfl) ?_
  try refine R_top (y := nI _) (by assumption) ?_
  refine R_iald rfl rfl rfl (show _ < 2000 from by omega) ?_
  try refine R_top (y := nI _) (by assumption) ?_
  refine R_istore_n (lv' := [(1, _), (0, _)]) rfl rfl ?_
  refine R_aload_n rfl rfl ?_
  refine R_getA rfl rfl (Or.inl rfl) ?_
  refine R_aload_n rfl rfl ?_
  refine R_getI rfl rfl (Or.inl rfl) ?_
  try refine R_top (y := nI _) (by assumption) ?_
  refine R_iald rfl rfl rfl (show _ < 2000 from by omega) ?_
  try refine R_top (y := nI _) (by assumption) ?_
  refine R_istore_n (lv' := [(2, _), (1, _), (0, _)]) rfl rfl ?_
  refine R_aload_n rfl rfl ?_
  refine R_getI rfl rfl (Or.inl rfl) ?_
  try refine R_top (y := nI _) (by assumption) ?_
  refine R_aload_n rfl rfl ?_
  refine R_getA rfl rfl (Or.inl rfl) ?_
  refine R_aload_n rfl rfl ?_
  refine R_getI rfl rfl (Or.inl rfl) ?_
  try refine R_top (y := nI _) (by assumption) ?_
  refine R_iconst (y := nI 1) rfl (by decide) ?_
  first | refine R_isubN rfl (by omega) ?_ | refine R_isub rfl ?_
  refine R_iald rfl rfl rfl (show _ < 200 from by omega) ?_
  try refine R_top (y := nI _) (by assumption) ?_
  first | refine R_isubN rfl (by omega) ?_ | refine R_isub rfl ?_
  refine R_iload_n rfl rfl ?_
  refine R_aload_n rfl rfl ?_
  refine R_getA rfl rfl (Or.inl rfl) ?_
  refine R_aload_n rfl rfl ?_
  refine R_getI rfl rfl (Or.inl rfl) ?_
  try refine R_top (y := nI _) (by assumption) ?_
  refine R_iald rfl rfl rfl (show _ < 2000 from by omega) ?_
  try refine R_top (y := nI _) (by assumption) ?_
  refine R_stat rfl rfl rfl (Nat.le_of_ble_eq_true rfl) rfl rfl (Nat.le_of_ble_eq_true rfl) (fun _ q => by cases q) (r_wants18) ?_
  try refine R_top (y := nI _) (by assumption) ?_
  refine R_icT (pc' := 97) rfl rfl (by first | assumption | exact icT (by decide) | exact ic_T (by omega) (by omega) (by simp only [icN, not_true_eq_false, not_false_eq_true] <;> omega) | exact ic_T0 (by omega) (by simp only [icN, not_true_eq_false, not_false_eq_true] <;> omega)) ?_
  refine R_iload_n rfl rfl ?_
  refine R_bipush (y := nI 19) rfl (by decide) ?_
  refine R_icF rfl (by first | assumption | exact icF (by decide) | exact ic_F (by omega) (by omega) (by simp only [icN, not_true_eq_false, not_false_eq_true] <;> omega) | exact ic_F0 (by omega) (by simp only [icN, not_true_eq_false, not_false_eq_true] <;> omega)) ?_
  refine R_aload_n rfl rfl ?_
  refine R_iload_n rfl rfl ?_
  refine R_iload_n rfl rfl ?_
  refine R_virt rfl rfl rfl rfl rfl rfl rfl (Nat.le_of_ble_eq_true rfl) (fun _ q => by cases q) (hX) ?_
  try refine R_top (y := nI _) (by assumption) ?_
  exact R_iret rfl rfl (by first | trivial | exact Or.inl rfl | exact Or.inr rfl | assumption) ⟨rfl, rfl⟩
theorem r_op19 {d : Nat} {M : Mem} {a w p f q b s : Nat} (ha : M 10 0 = nI a) (hw : M 5 0 = nI w) (haw : a < w) (hw2 : w ≤ 2000) (hB : M 4 a = nI b) (hb2 : b ≤ 15) (hp : M 14 0 = nI p) (hp1 : p ≤ 1000) (hf : M 22 0 = nI f) (hf0 : 0 < f) (hf1 : f ≤ 200) (hq : M 15 (f - 1) = nI q) (hqp : q ≤ p) (ho : M 2 a = nI 19) (hen : wnt 19 b ≤ p - q) {Q : Option Value → Mem → Prop} (hQ : ∀ v M', Q v M' → ∃ x, v = some (.int x)) (hX : CQ (d + 6) j_X9_fresh [.ref 0] M Q) : CQ (d + 7) j_X9_oneStep [.ref 0] M Q := by
  have hen : 1 ≤ p - q := hen
  have hwn : nI (wnt 19 b) = nI (1) := rfl
  refine CQ_of (md := md_X9_oneStep) (d := d + 6) rfl (Nat.le_of_ble_eq_true rfl) ?_
  show WR (CalR (d + 6)) t_X9_oneStep 9 (some .int) _ 0 [(0, .ref 0)] [] _
  refine R_aload_n rfl rfl ?_
  refine R_getI rfl rfl (Or.inl rfl) ?_
  try refine R_top (y := nI _) (by assumption) ?_
  refine R_aload_n rfl rfl ?_
  refine R_getI rfl rfl (Or.inl rfl) ?_
  try refine R_top (y := nI _) (by assumption) ?_
  refine R_icF rfl (by first | assumption | exact icF (by decide) | exact ic_F (by omega) (by omega) (by simp only [icN, not_true_eq_false, not_false_eq_true] <;> omega) | exact ic_F0 (by omega) (by simp only [icN, not_true_eq_false, not_false_eq_true] <;> omega)) ?_
  refine R_aload_n rfl rfl ?_
  refine R_getA rfl rfl (Or.inl rfl) ?_
  refine R_aload_n rfl rfl ?_
  refine R_getI rfl rfl (Or.inl rfl) ?_
  try refine R_top (y := nI _) (by assumption) ?_
  refine R_iald rfl rfl rfl (show _ < 2000 from by omega) ?_
  try refine R_top (y := nI _) (by assumption) ?_
  refine R_ifT (pc' := 39) rfl rfl (by first | assumption | exact icT (by decide) | exact ic_T (by omega) (by omega) (by simp only [icN, not_true_eq_false, not_false_eq_true] <;> omega) | exact ic_T0 (by omega) (by simp only [icN, not_true_eq_false, not_false_eq_true] <;> omega)) ?_
  refine R_aload_n rfl rfl ?_
  refine R_getA rfl rfl (Or.inl rfl) ?_
  refine R_aload_n rfl rfl ?_
  refine R_getI rfl rfl (Or.inl rfl) ?_
  try refine R_top (y := nI _) (by assumption) ?_
  refine R_iald rfl rfl rfl (show _ < 2000 from by omega) ?_
  try refine R_top (y := nI _) (by assumption) ?_
  refine R_istore_n (lv' := [(1, _), (0, _)]) rfl rfl ?_
  refine R_aload_n rfl rfl ?_
  refine R_getA rfl rfl (Or.inl rfl) ?_
  refine R_aload_n rfl rfl ?_
  refine R_getI rfl rfl (Or.inl rfl) ?_
  try refine R_top (y := nI _) (by assumption) ?_
  refine R_iald rfl rfl rfl (show _ < 2000 from by omega) ?_
  try refine R_top (y := nI _) (by assumption) ?_
  refine R_istore_n (lv' := [(2, _), (1, _), (0, _)]) rfl rfl ?_
  refine R_aload_n rfl rfl ?_
  refine R_getI rfl rfl (Or.inl rfl) ?_
  try refine R_top (y := nI _) (by assumption) ?_
  refine R_aload_n rfl rfl ?_
  refine R_getA rfl rfl (Or.inl rfl) ?_
  refine R_aload_n rfl rfl ?_
  refine R_getI rfl rfl (Or.inl rfl) ?_
  try refine R_top (y := nI _) (by assumption) ?_
  refine R_iconst (y := nI 1) rfl (by decide) ?_
  first | refine R_isubN rfl (by omega) ?_ | refine R_isub rfl ?_
  refine R_iald rfl rfl rfl (show _ < 200 from by omega) ?_
  try refine R_top (y := nI _) (by assumption) ?_
  first | refine R_isubN rfl (by omega) ?_ | refine R_isub rfl ?_
  refine R_iload_n rfl rfl ?_
  refine R_aload_n rfl rfl ?_
  refine R_getA rfl rfl (Or.inl rfl) ?_
  refine R_aload_n rfl rfl ?_
  refine R_getI rfl rfl (Or.inl rfl) ?_
  try refine R_top (y := nI _) (by assumption) ?_
  refine R_iald rfl rfl rfl (show _ < 2000 from by omega) ?_
  try refine R_top (y := nI _) (by assumption) ?_
  refine R_stat rfl rfl rfl (Nat.le_of_ble_eq_true rfl) rfl rfl (Nat.le_of_ble_eq_true rfl) (fun _ q => by cases q) (r_wants19) ?_
  try refine R_top (y := nI _) (by assumption) ?_
  refine R_icT (pc' := 97) rfl rfl (by first | assumption | exact icT (by decide) | exact ic_T (by omega) (by omega) (by simp only [icN, not_true_eq_false, not_false_eq_true] <;> omega) | exact ic_T0 (by omega) (by simp only [icN, not_true_eq_false, not_false_eq_true] <;> omega)) ?_
  refine R_iload_n rfl rfl ?_
  refine R_bipush (y := nI 19) rfl (by decide) ?_
  refine R_icT (pc' := 110) rfl rfl (by first | assumption | exact icT (by decide) | exact ic_T (by omega) (by omega) (by simp only [icN, not_true_eq_false, not_false_eq_true] <;> omega) | exact ic_T0 (by omega) (by simp only [icN, not_true_eq_false, not_false_eq_true] <;> omega)) ?_
  refine R_iload_n rfl rfl ?_
  refine R_table (pc' := 180) rfl (by decide) ?_
  refine R_aload_n rfl rfl ?_
  refine R_vq rfl rfl rfl rfl rfl rfl rfl (Nat.le_of_ble_eq_true rfl) hX ?_
  intro v M2 hv
  obtain ⟨y, rfl⟩ := hQ v M2 hv
  exact R_iret rfl rfl trivial hv
theorem r_op20 {d : Nat} {M : Mem} {a w p f q b s : Nat} (ha : M 10 0 = nI a) (hw : M 5 0 = nI w) (haw : a < w) (hw2 : w ≤ 2000) (hB : M 4 a = nI b) (hb2 : b ≤ 15) (hp : M 14 0 = nI p) (hp1 : p ≤ 1000) (hf : M 22 0 = nI f) (hf0 : 0 < f) (hf1 : f ≤ 200) (hq : M 15 (f - 1) = nI q) (hqp : q ≤ p) (ho : M 2 a = nI 20) (hen : wnt 20 b ≤ p - q) {Q : Option Value → Mem → Prop} (hQ : ∀ v M', Q v M' → ∃ x, v = some (.int x)) (hX : CQ (d + 6) j_X9_copy [.ref 0] M Q) : CQ (d + 7) j_X9_oneStep [.ref 0] M Q := by
  have hen : 1 ≤ p - q := hen
  have hwn : nI (wnt 20 b) = nI (1) := rfl
  refine CQ_of (md := md_X9_oneStep) (d := d + 6) rfl (Nat.le_of_ble_eq_true rfl) ?_
  show WR (CalR (d + 6)) t_X9_oneStep 9 (some .int) _ 0 [(0, .ref 0)] [] _
  refine R_aload_n rfl rfl ?_
  refine R_getI rfl rfl (Or.inl rfl) ?_
  try refine R_top (y := nI _) (by assumption) ?_
  refine R_aload_n rfl rfl ?_
  refine R_getI rfl rfl (Or.inl rfl) ?_
  try refine R_top (y := nI _) (by assumption) ?_
  refine R_icF rfl (by first | assumption | exact icF (by decide) | exact ic_F (by omega) (by omega) (by simp only [icN, not_true_eq_false, not_false_eq_true] <;> omega) | exact ic_F0 (by omega) (by simp only [icN, not_true_eq_false, not_false_eq_true] <;> omega)) ?_
  refine R_aload_n rfl rfl ?_
  refine R_getA rfl rfl (Or.inl rfl) ?_
  refine R_aload_n rfl rfl ?_
  refine R_getI rfl rfl (Or.inl rfl) ?_
  try refine R_top (y := nI _) (by assumption) ?_
  refine R_iald rfl rfl rfl (show _ < 2000 from by omega) ?_
  try refine R_top (y := nI _) (by assumption) ?_
  refine R_ifT (pc' := 39) rfl rfl (by first | assumption | exact icT (by decide) | exact ic_T (by omega) (by omega) (by simp only [icN, not_true_eq_false, not_false_eq_true] <;> omega) | exact ic_T0 (by omega) (by simp only [icN, not_true_eq_false, not_false_eq_true] <;> omega)) ?_
  refine R_aload_n rfl rfl ?_
  refine R_getA rfl rfl (Or.inl rfl) ?_
  refine R_aload_n rfl rfl ?_
  refine R_getI rfl rfl (Or.inl rfl) ?_
  try refine R_top (y := nI _) (by assumption) ?_
  refine R_iald rfl rfl rfl (show _ < 2000 from by omega) ?_
  try refine R_top (y := nI _) (by assumption) ?_
  refine R_istore_n (lv' := [(1, _), (0, _)]) rfl rfl ?_
  refine R_aload_n rfl rfl ?_
  refine R_getA rfl rfl (Or.inl rfl) ?_
  refine R_aload_n rfl rfl ?_
  refine R_getI rfl rfl (Or.inl rfl) ?_
  try refine R_top (y := nI _) (by assumption) ?_
  refine R_iald rfl rfl rfl (show _ < 2000 from by omega) ?_
  try refine R_top (y := nI _) (by assumption) ?_
  refine R_istore_n (lv' := [(2, _), (1, _), (0, _)]) rfl rfl ?_
  refine R_aload_n rfl rfl ?_
  refine R_getI rfl rfl (Or.inl rfl) ?_
  try refine R_top (y := nI _) (by assumption) ?_
  refine R_aload_n rfl rfl ?_
  refine R_getA rfl rfl (Or.inl rfl) ?_
  refine R_aload_n rfl rfl ?_
  refine R_getI rfl rfl (Or.inl rfl) ?_
  try refine R_top (y := nI _) (by assumption) ?_
  refine R_iconst (y := nI 1) rfl (by decide) ?_
  first | refine R_isubN rfl (by omega) ?_ | refine R_isub rfl ?_
  refine R_iald rfl rfl rfl (show _ < 200 from by omega) ?_
  try refine R_top (y := nI _) (by assumption) ?_
  first | refine R_isubN rfl (by omega) ?_ | refine R_isub rfl ?_
  refine R_iload_n rfl rfl ?_
  refine R_aload_n rfl rfl ?_
  refine R_getA rfl rfl (Or.inl rfl) ?_
  refine R_aload_n rfl rfl ?_
  refine R_getI rfl rfl (Or.inl rfl) ?_
  try refine R_top (y := nI _) (by assumption) ?_
  refine R_iald rfl rfl rfl (show _ < 2000 from by omega) ?_
  try refine R_top (y := nI _) (by assumption) ?_
  refine R_stat rfl rfl rfl (Nat.le_of_ble_eq_true rfl) rfl rfl (Nat.le_of_ble_eq_true rfl) (fun _ q => by cases q) (r_wants20) ?_
  try refine R_top (y := nI _) (by assumption) ?_
  refine R_icT (pc' := 97) rfl rfl (by first | assumption | exact icT (by decide) | exact ic_T (by omega) (by omega) (by simp only [icN, not_true_eq_false, not_false_eq_true] <;> omega) | exact ic_T0 (by omega) (by simp only [icN, not_true_eq_false, not_false_eq_true] <;> omega)) ?_
  refine R_iload_n rfl rfl ?_
  refine R_bipush (y := nI 19) rfl (by decide) ?_
  refine R_icT (pc' := 110) rfl rfl (by first | assumption | exact icT (by decide) | exact ic_T (by omega) (by omega) (by simp only [icN, not_true_eq_false, not_false_eq_true] <;> omega) | exact ic_T0 (by omega) (by simp only [icN, not_true_eq_false, not_false_eq_true] <;> omega)) ?_
  refine R_iload_n rfl rfl ?_
  refine R_table (pc' := 185) rfl (by decide) ?_
  refine R_aload_n rfl rfl ?_
  refine R_vq rfl rfl rfl rfl rfl rfl rfl (Nat.le_of_ble_eq_true rfl) hX ?_
  intro v M2 hv
  obtain ⟨y, rfl⟩ := hQ v M2 hv
  exact R_iret rfl rfl trivial hv
theorem r_op21 {d : Nat} {M : Mem} {a w p f q b s : Nat} (ha : M 10 0 = nI a) (hw : M 5 0 = nI w) (haw : a < w) (hw2 : w ≤ 2000) (hB : M 4 a = nI b) (hb2 : b ≤ 15) (hp : M 14 0 = nI p) (hp1 : p ≤ 1000) (hf : M 22 0 = nI f) (hf0 : 0 < f) (hf1 : f ≤ 200) (hq : M 15 (f - 1) = nI q) (hqp : q ≤ p) (ho : M 2 a = nI 21) (hen : wnt 21 b ≤ p - q) {Q : Option Value → Mem → Prop} (hQ : ∀ v M', Q v M' → ∃ x, v = some (.int x)) (hX : CQ (d + 6) j_X9_get [.ref 0, .int (M 3 a)] M Q) : CQ (d + 7) j_X9_oneStep [.ref 0] M Q := by
  have hen : 1 ≤ p - q := hen
  have hwn : nI (wnt 21 b) = nI (1) := rfl
  refine CQ_of (md := md_X9_oneStep) (d := d + 6) rfl (Nat.le_of_ble_eq_true rfl) ?_
  show WR (CalR (d + 6)) t_X9_oneStep 9 (some .int) _ 0 [(0, .ref 0)] [] _
  refine R_aload_n rfl rfl ?_
  refine R_getI rfl rfl (Or.inl rfl) ?_
  try refine R_top (y := nI _) (by assumption) ?_
  refine R_aload_n rfl rfl ?_
  refine R_getI rfl rfl (Or.inl rfl) ?_
  try refine R_top (y := nI _) (by assumption) ?_
  refine R_icF rfl (by first | assumption | exact icF (by decide) | exact ic_F (by omega) (by omega) (by simp only [icN, not_true_eq_false, not_false_eq_true] <;> omega) | exact ic_F0 (by omega) (by simp only [icN, not_true_eq_false, not_false_eq_true] <;> omega)) ?_
  refine R_aload_n rfl rfl ?_
  refine R_getA rfl rfl (Or.inl rfl) ?_
  refine R_aload_n rfl rfl ?_
  refine R_getI rfl rfl (Or.inl rfl) ?_
  try refine R_top (y := nI _) (by assumption) ?_
  refine R_iald rfl rfl rfl (show _ < 2000 from by omega) ?_
  try refine R_top (y := nI _) (by assumption) ?_
  refine R_ifT (pc' := 39) rfl rfl (by first | assumption | exact icT (by decide) | exact ic_T (by omega) (by omega) (by simp only [icN, not_true_eq_false, not_false_eq_true] <;> omega) | exact ic_T0 (by omega) (by simp only [icN, not_true_eq_false, not_false_eq_true] <;> omega)) ?_
  refine R_aload_n rfl rfl ?_
  refine R_getA rfl rfl (Or.inl rfl) ?_
  refine R_aload_n rfl rfl ?_
  refine R_getI rfl rfl (Or.inl rfl) ?_
  try refine R_top (y := nI _) (by assumption) ?_
  refine R_iald rfl rfl rfl (show _ < 2000 from by omega) ?_
  try refine R_top (y := nI _) (by assumption) ?_
  refine R_istore_n (lv' := [(1, _), (0, _)]) rfl rfl ?_
  refine R_aload_n rfl rfl ?_
  refine R_getA rfl rfl (Or.inl rfl) ?_
  refine R_aload_n rfl rfl ?_
  refine R_getI rfl rfl (Or.inl rfl) ?_
  try refine R_top (y := nI _) (by assumption) ?_
  refine R_iald rfl rfl rfl (show _ < 2000 from by omega) ?_
  try refine R_top (y := nI _) (by assumption) ?_
  refine R_istore_n (lv' := [(2, _), (1, _), (0, _)]) rfl rfl ?_
  refine R_aload_n rfl rfl ?_
  refine R_getI rfl rfl (Or.inl rfl) ?_
  try refine R_top (y := nI _) (by assumption) ?_
  refine R_aload_n rfl rfl ?_
  refine R_getA rfl rfl (Or.inl rfl) ?_
  refine R_aload_n rfl rfl ?_
  refine R_getI rfl rfl (Or.inl rfl) ?_
  try refine R_top (y := nI _) (by assumption) ?_
  refine R_iconst (y := nI 1) rfl (by decide) ?_
  first | refine R_isubN rfl (by omega) ?_ | refine R_isub rfl ?_
  refine R_iald rfl rfl rfl (show _ < 200 from by omega) ?_
  try refine R_top (y := nI _) (by assumption) ?_
  first | refine R_isubN rfl (by omega) ?_ | refine R_isub rfl ?_
  refine R_iload_n rfl rfl ?_
  refine R_aload_n rfl rfl ?_
  refine R_getA rfl rfl (Or.inl rfl) ?_
  refine R_aload_n rfl rfl ?_
  refine R_getI rfl rfl (Or.inl rfl) ?_
  try refine R_top (y := nI _) (by assumption) ?_
  refine R_iald rfl rfl rfl (show _ < 2000 from by omega) ?_
  try refine R_top (y := nI _) (by assumption) ?_
  refine R_stat rfl rfl rfl (Nat.le_of_ble_eq_true rfl) rfl rfl (Nat.le_of_ble_eq_true rfl) (fun _ q => by cases q) (r_wants21) ?_
  try refine R_top (y := nI _) (by assumption) ?_
  refine R_icT (pc' := 97) rfl rfl (by first | assumption | exact icT (by decide) | exact ic_T (by omega) (by omega) (by simp only [icN, not_true_eq_false, not_false_eq_true] <;> omega) | exact ic_T0 (by omega) (by simp only [icN, not_true_eq_false, not_false_eq_true] <;> omega)) ?_
  refine R_iload_n rfl rfl ?_
  refine R_bipush (y := nI 19) rfl (by decide) ?_
  refine R_icT (pc' := 110) rfl rfl (by first | assumption | exact icT (by decide) | exact ic_T (by omega) (by omega) (by simp only [icN, not_true_eq_false, not_false_eq_true] <;> omega) | exact ic_T0 (by omega) (by simp only [icN, not_true_eq_false, not_false_eq_true] <;> omega)) ?_
  refine R_iload_n rfl rfl ?_
  refine R_table (pc' := 190) rfl (by decide) ?_
  refine R_aload_n rfl rfl ?_
  refine R_iload_n rfl rfl ?_
  refine R_vq rfl rfl rfl rfl rfl rfl rfl (Nat.le_of_ble_eq_true rfl) hX ?_
  intro v M2 hv
  obtain ⟨y, rfl⟩ := hQ v M2 hv
  exact R_iret rfl rfl trivial hv
theorem r_op22 {d : Nat} {M : Mem} {a w p f q b s : Nat} (ha : M 10 0 = nI a) (hw : M 5 0 = nI w) (haw : a < w) (hw2 : w ≤ 2000) (hB : M 4 a = nI b) (hb2 : b ≤ 15) (hp : M 14 0 = nI p) (hp1 : p ≤ 1000) (hf : M 22 0 = nI f) (hf0 : 0 < f) (hf1 : f ≤ 200) (hq : M 15 (f - 1) = nI q) (hqp : q ≤ p) (ho : M 2 a = nI 22) (hen : wnt 22 b ≤ p - q) {Q : Option Value → Mem → Prop} (hQ : ∀ v M', Q v M' → ∃ x, v = some (.int x)) (hX : CQ (d + 6) j_X9_set [.ref 0, .int (M 3 a)] M Q) : CQ (d + 7) j_X9_oneStep [.ref 0] M Q := by
  have hen : 2 ≤ p - q := hen
  have hwn : nI (wnt 22 b) = nI (2) := rfl
  refine CQ_of (md := md_X9_oneStep) (d := d + 6) rfl (Nat.le_of_ble_eq_true rfl) ?_
  show WR (CalR (d + 6)) t_X9_oneStep 9 (some .int) _ 0 [(0, .ref 0)] [] _
  refine R_aload_n rfl rfl ?_
  refine R_getI rfl rfl (Or.inl rfl) ?_
  try refine R_top (y := nI _) (by assumption) ?_
  refine R_aload_n rfl rfl ?_
  refine R_getI rfl rfl (Or.inl rfl) ?_
  try refine R_top (y := nI _) (by assumption) ?_
  refine R_icF rfl (by first | assumption | exact icF (by decide) | exact ic_F (by omega) (by omega) (by simp only [icN, not_true_eq_false, not_false_eq_true] <;> omega) | exact ic_F0 (by omega) (by simp only [icN, not_true_eq_false, not_false_eq_true] <;> omega)) ?_
  refine R_aload_n rfl rfl ?_
  refine R_getA rfl rfl (Or.inl rfl) ?_
  refine R_aload_n rfl rfl ?_
  refine R_getI rfl rfl (Or.inl rfl) ?_
  try refine R_top (y := nI _) (by assumption) ?_
  refine R_iald rfl rfl rfl (show _ < 2000 from by omega) ?_
  try refine R_top (y := nI _) (by assumption) ?_
  refine R_ifT (pc' := 39) rfl rfl (by first | assumption | exact icT (by decide) | exact ic_T (by omega) (by omega) (by simp only [icN, not_true_eq_false, not_false_eq_true] <;> omega) | exact ic_T0 (by omega) (by simp only [icN, not_true_eq_false, not_false_eq_true] <;> omega)) ?_
  refine R_aload_n rfl rfl ?_
  refine R_getA rfl rfl (Or.inl rfl) ?_
  refine R_aload_n rfl rfl ?_
  refine R_getI rfl rfl (Or.inl rfl) ?_
  try refine R_top (y := nI _) (by assumption) ?_
  refine R_iald rfl rfl rfl (show _ < 2000 from by omega) ?_
  try refine R_top (y := nI _) (by assumption) ?_
  refine R_istore_n (lv' := [(1, _), (0, _)]) rfl rfl ?_
  refine R_aload_n rfl rfl ?_
  refine R_getA rfl rfl (Or.inl rfl) ?_
  refine R_aload_n rfl rfl ?_
  refine R_getI rfl rfl (Or.inl rfl) ?_
  try refine R_top (y := nI _) (by assumption) ?_
  refine R_iald rfl rfl rfl (show _ < 2000 from by omega) ?_
  try refine R_top (y := nI _) (by assumption) ?_
  refine R_istore_n (lv' := [(2, _), (1, _), (0, _)]) rfl rfl ?_
  refine R_aload_n rfl rfl ?_
  refine R_getI rfl rfl (Or.inl rfl) ?_
  try refine R_top (y := nI _) (by assumption) ?_
  refine R_aload_n rfl rfl ?_
  refine R_getA rfl rfl (Or.inl rfl) ?_
  refine R_aload_n rfl rfl ?_
  refine R_getI rfl rfl (Or.inl rfl) ?_
  try refine R_top (y := nI _) (by assumption) ?_
  refine R_iconst (y := nI 1) rfl (by decide) ?_
  first | refine R_isubN rfl (by omega) ?_ | refine R_isub rfl ?_
  refine R_iald rfl rfl rfl (show _ < 200 from by omega) ?_
  try refine R_top (y := nI _) (by assumption) ?_
  first | refine R_isubN rfl (by omega) ?_ | refine R_isub rfl ?_
  refine R_iload_n rfl rfl ?_
  refine R_aload_n rfl rfl ?_
  refine R_getA rfl rfl (Or.inl rfl) ?_
  refine R_aload_n rfl rfl ?_
  refine R_getI rfl rfl (Or.inl rfl) ?_
  try refine R_top (y := nI _) (by assumption) ?_
  refine R_iald rfl rfl rfl (show _ < 2000 from by omega) ?_
  try refine R_top (y := nI _) (by assumption) ?_
  refine R_stat rfl rfl rfl (Nat.le_of_ble_eq_true rfl) rfl rfl (Nat.le_of_ble_eq_true rfl) (fun _ q => by cases q) (r_wants22) ?_
  try refine R_top (y := nI _) (by assumption) ?_
  refine R_icT (pc' := 97) rfl rfl (by first | assumption | exact icT (by decide) | exact ic_T (by omega) (by omega) (by simp only [icN, not_true_eq_false, not_false_eq_true] <;> omega) | exact ic_T0 (by omega) (by simp only [icN, not_true_eq_false, not_false_eq_true] <;> omega)) ?_
  refine R_iload_n rfl rfl ?_
  refine R_bipush (y := nI 19) rfl (by decide) ?_
  refine R_icT (pc' := 110) rfl rfl (by first | assumption | exact icT (by decide) | exact ic_T (by omega) (by omega) (by simp only [icN, not_true_eq_false, not_false_eq_true] <;> omega) | exact ic_T0 (by omega) (by simp only [icN, not_true_eq_false, not_false_eq_true] <;> omega)) ?_
  refine R_iload_n rfl rfl ?_
  refine R_table (pc' := 196) rfl (by decide) ?_
  refine R_aload_n rfl rfl ?_
  refine R_iload_n rfl rfl ?_
  refine R_vq rfl rfl rfl rfl rfl rfl rfl (Nat.le_of_ble_eq_true rfl) hX ?_
  intro v M2 hv
  obtain ⟨y, rfl⟩ := hQ v M2 hv
  exact R_iret rfl rfl trivial hv
theorem r_op23 {d : Nat} {M : Mem} {a w p f q b s : Nat} (ha : M 10 0 = nI a) (hw : M 5 0 = nI w) (haw : a < w) (hw2 : w ≤ 2000) (hB : M 4 a = nI b) (hb2 : b ≤ 15) (hp : M 14 0 = nI p) (hp1 : p ≤ 1000) (hf : M 22 0 = nI f) (hf0 : 0 < f) (hf1 : f ≤ 200) (hq : M 15 (f - 1) = nI q) (hqp : q ≤ p) (ho : M 2 a = nI 23) (hen : wnt 23 b ≤ p - q) {Q : Option Value → Mem → Prop} (hQ : ∀ v M', Q v M' → ∃ x, v = some (.int x)) (hX : CQ (d + 6) j_X9_drop [.ref 0, .int (M 3 a)] M Q) : CQ (d + 7) j_X9_oneStep [.ref 0] M Q := by
  have hen : 1 ≤ p - q := hen
  have hwn : nI (wnt 23 b) = nI (1) := rfl
  refine CQ_of (md := md_X9_oneStep) (d := d + 6) rfl (Nat.le_of_ble_eq_true rfl) ?_
  show WR (CalR (d + 6)) t_X9_oneStep 9 (some .int) _ 0 [(0, .ref 0)] [] _
  refine R_aload_n rfl rfl ?_
  refine R_getI rfl rfl (Or.inl rfl) ?_
  try refine R_top (y := nI _) (by assumption) ?_
  refine R_aload_n rfl rfl ?_
  refine R_getI rfl rfl (Or.inl rfl) ?_
  try refine R_top (y := nI _) (by assumption) ?_
  refine R_icF rfl (by first | assumption | exact icF (by decide) | exact ic_F (by omega) (by omega) (by simp only [icN, not_true_eq_false, not_false_eq_true] <;> omega) | exact ic_F0 (by omega) (by simp only [icN, not_true_eq_false, not_false_eq_true] <;> omega)) ?_
  refine R_aload_n rfl rfl ?_
  refine R_getA rfl rfl (Or.inl rfl) ?_
  refine R_aload_n rfl rfl ?_
  refine R_getI rfl rfl (Or.inl rfl) ?_
  try refine R_top (y := nI _) (by assumption) ?_
  refine R_iald rfl rfl rfl (show _ < 2000 from by omega) ?_
  try refine R_top (y := nI _) (by assumption) ?_
  refine R_ifT (pc' := 39) rfl rfl (by first | assumption | exact icT (by decide) | exact ic_T (by omega) (by omega) (by simp only [icN, not_true_eq_false, not_false_eq_true] <;> omega) | exact ic_T0 (by omega) (by simp only [icN, not_true_eq_false, not_false_eq_true] <;> omega)) ?_
  refine R_aload_n rfl rfl ?_
  refine R_getA rfl rfl (Or.inl rfl) ?_
  refine R_aload_n rfl rfl ?_
  refine R_getI rfl rfl (Or.inl rfl) ?_
  try refine R_top (y := nI _) (by assumption) ?_
  refine R_iald rfl rfl rfl (show _ < 2000 from by omega) ?_
  try refine R_top (y := nI _) (by assumption) ?_
  refine R_istore_n (lv' := [(1, _), (0, _)]) rfl rfl ?_
  refine R_aload_n rfl rfl ?_
  refine R_getA rfl rfl (Or.inl rfl) ?_
  refine R_aload_n rfl rfl ?_
  refine R_getI rfl rfl (Or.inl rfl) ?_
  try refine R_top (y := nI _) (by assumption) ?_
  refine R_iald rfl rfl rfl (show _ < 2000 from by omega) ?_
  try refine R_top (y := nI _) (by assumption) ?_
  refine R_istore_n (lv' := [(2, _), (1, _), (0, _)]) rfl rfl ?_
  refine R_aload_n rfl rfl ?_
  refine R_getI rfl rfl (Or.inl rfl) ?_
  try refine R_top (y := nI _) (by assumption) ?_
  refine R_aload_n rfl rfl ?_
  refine R_getA rfl rfl (Or.inl rfl) ?_
  refine R_aload_n rfl rfl ?_
  refine R_getI rfl rfl (Or.inl rfl) ?_
  try refine R_top (y := nI _) (by assumption) ?_
  refine R_iconst (y := nI 1) rfl (by decide) ?_
  first | refine R_isubN rfl (by omega) ?_ | refine R_isub rfl ?_
  refine R_iald rfl rfl rfl (show _ < 200 from by omega) ?_
  try refine R_top (y := nI _) (by assumption) ?_
  first | refine R_isubN rfl (by omega) ?_ | refine R_isub rfl ?_
  refine R_iload_n rfl rfl ?_
  refine R_aload_n rfl rfl ?_
  refine R_getA rfl rfl (Or.inl rfl) ?_
  refine R_aload_n rfl rfl ?_
  refine R_getI rfl rfl (Or.inl rfl) ?_
  try refine R_top (y := nI _) (by assumption) ?_
  refine R_iald rfl rfl rfl (show _ < 2000 from by omega) ?_
  try refine R_top (y := nI _) (by assumption) ?_
  refine R_stat rfl rfl rfl (Nat.le_of_ble_eq_true rfl) rfl rfl (Nat.le_of_ble_eq_true rfl) (fun _ q => by cases q) (r_wants23) ?_
  try refine R_top (y := nI _) (by assumption) ?_
  refine R_icT (pc' := 97) rfl rfl (by first | assumption | exact icT (by decide) | exact ic_T (by omega) (by omega) (by simp only [icN, not_true_eq_false, not_false_eq_true] <;> omega) | exact ic_T0 (by omega) (by simp only [icN, not_true_eq_false, not_false_eq_true] <;> omega)) ?_
  refine R_iload_n rfl rfl ?_
  refine R_bipush (y := nI 19) rfl (by decide) ?_
  refine R_icT (pc' := 110) rfl rfl (by first | assumption | exact icT (by decide) | exact ic_T (by omega) (by omega) (by simp only [icN, not_true_eq_false, not_false_eq_true] <;> omega) | exact ic_T0 (by omega) (by simp only [icN, not_true_eq_false, not_false_eq_true] <;> omega)) ?_
  refine R_iload_n rfl rfl ?_
  refine R_table (pc' := 202) rfl (by decide) ?_
  refine R_aload_n rfl rfl ?_
  refine R_iload_n rfl rfl ?_
  refine R_vq rfl rfl rfl rfl rfl rfl rfl (Nat.le_of_ble_eq_true rfl) hX ?_
  intro v M2 hv
  obtain ⟨y, rfl⟩ := hQ v M2 hv
  exact R_iret rfl rfl trivial hv
theorem r_op25 {d : Nat} {M : Mem} {a w p f q b s : Nat} (ha : M 10 0 = nI a) (hw : M 5 0 = nI w) (haw : a < w) (hw2 : w ≤ 2000) (hB : M 4 a = nI b) (hb2 : b ≤ 15) (hp : M 14 0 = nI p) (hp1 : p ≤ 1000) (hf : M 22 0 = nI f) (hf0 : 0 < f) (hf1 : f ≤ 200) (hq : M 15 (f - 1) = nI q) (hqp : q ≤ p) (ho : M 2 a = nI 25) (hen : wnt 25 b ≤ p - q) {Q : Option Value → Mem → Prop} (hQ : ∀ v M', Q v M' → ∃ x, v = some (.int x)) (hX : CQ (d + 6) j_X9_parent [.ref 0] M Q) : CQ (d + 7) j_X9_oneStep [.ref 0] M Q := by
  have hen : 1 ≤ p - q := hen
  have hwn : nI (wnt 25 b) = nI (1) := rfl
  refine CQ_of (md := md_X9_oneStep) (d := d + 6) rfl (Nat.le_of_ble_eq_true rfl) ?_
  show WR (CalR (d + 6)) t_X9_oneStep 9 (some .int) _ 0 [(0, .ref 0)] [] _
  refine R_aload_n rfl rfl ?_
  refine R_getI rfl rfl (Or.inl rfl) ?_
  try refine R_top (y := nI _) (by assumption) ?_
  refine R_aload_n rfl rfl ?_
  refine R_getI rfl rfl (Or.inl rfl) ?_
  try refine R_top (y := nI _) (by assumption) ?_
  refine R_icF rfl (by first | assumption | exact icF (by decide) | exact ic_F (by omega) (by omega) (by simp only [icN, not_true_eq_false, not_false_eq_true] <;> omega) | exact ic_F0 (by omega) (by simp only [icN, not_true_eq_false, not_false_eq_true] <;> omega)) ?_
  refine R_aload_n rfl rfl ?_
  refine R_getA rfl rfl (Or.inl rfl) ?_
  refine R_aload_n rfl rfl ?_
  refine R_getI rfl rfl (Or.inl rfl) ?_
  try refine R_top (y := nI _) (by assumption) ?_
  refine R_iald rfl rfl rfl (show _ < 2000 from by omega) ?_
  try refine R_top (y := nI _) (by assumption) ?_
  refine R_ifT (pc' := 39) rfl rfl (by first | assumption | exact icT (by decide) | exact ic_T (by omega) (by omega) (by simp only [icN, not_true_eq_false, not_false_eq_true] <;> omega) | exact ic_T0 (by omega) (by simp only [icN, not_true_eq_false, not_false_eq_true] <;> omega)) ?_
  refine R_aload_n rfl rfl ?_
  refine R_getA rfl rfl (Or.inl rfl) ?_
  refine R_aload_n rfl rfl ?_
  refine R_getI rfl rfl (Or.inl rfl) ?_
  try refine R_top (y := nI _) (by assumption) ?_
  refine R_iald rfl rfl rfl (show _ < 2000 from by omega) ?_
  try refine R_top (y := nI _) (by assumption) ?_
  refine R_istore_n (lv' := [(1, _), (0, _)]) rfl rfl ?_
  refine R_aload_n rfl rfl ?_
  refine R_getA rfl rfl (Or.inl rfl) ?_
  refine R_aload_n rfl rfl ?_
  refine R_getI rfl rfl (Or.inl rfl) ?_
  try refine R_top (y := nI _) (by assumption) ?_
  refine R_iald rfl rfl rfl (show _ < 2000 from by omega) ?_
  try refine R_top (y := nI _) (by assumption) ?_
  refine R_istore_n (lv' := [(2, _), (1, _), (0, _)]) rfl rfl ?_
  refine R_aload_n rfl rfl ?_
  refine R_getI rfl rfl (Or.inl rfl) ?_
  try refine R_top (y := nI _) (by assumption) ?_
  refine R_aload_n rfl rfl ?_
  refine R_getA rfl rfl (Or.inl rfl) ?_
  refine R_aload_n rfl rfl ?_
  refine R_getI rfl rfl (Or.inl rfl) ?_
  try refine R_top (y := nI _) (by assumption) ?_
  refine R_iconst (y := nI 1) rfl (by decide) ?_
  first | refine R_isubN rfl (by omega) ?_ | refine R_isub rfl ?_
  refine R_iald rfl rfl rfl (show _ < 200 from by omega) ?_
  try refine R_top (y := nI _) (by assumption) ?_
  first | refine R_isubN rfl (by omega) ?_ | refine R_isub rfl ?_
  refine R_iload_n rfl rfl ?_
  refine R_aload_n rfl rfl ?_
  refine R_getA rfl rfl (Or.inl rfl) ?_
  refine R_aload_n rfl rfl ?_
  refine R_getI rfl rfl (Or.inl rfl) ?_
  try refine R_top (y := nI _) (by assumption) ?_
  refine R_iald rfl rfl rfl (show _ < 2000 from by omega) ?_
  try refine R_top (y := nI _) (by assumption) ?_
  refine R_stat rfl rfl rfl (Nat.le_of_ble_eq_true rfl) rfl rfl (Nat.le_of_ble_eq_true rfl) (fun _ q => by cases q) (r_wants25) ?_
  try refine R_top (y := nI _) (by assumption) ?_
  refine R_icT (pc' := 97) rfl rfl (by first | assumption | exact icT (by decide) | exact ic_T (by omega) (by omega) (by simp only [icN, not_true_eq_false, not_false_eq_true] <;> omega) | exact ic_T0 (by omega) (by simp only [icN, not_true_eq_false, not_false_eq_true] <;> omega)) ?_
  refine R_iload_n rfl rfl ?_
  refine R_bipush (y := nI 19) rfl (by decide) ?_
  refine R_icT (pc' := 110) rfl rfl (by first | assumption | exact icT (by decide) | exact ic_T (by omega) (by omega) (by simp only [icN, not_true_eq_false, not_false_eq_true] <;> omega) | exact ic_T0 (by omega) (by simp only [icN, not_true_eq_false, not_false_eq_true] <;> omega)) ?_
  refine R_iload_n rfl rfl ?_
  refine R_table (pc' := 237) rfl (by decide) ?_
  refine R_aload_n rfl rfl ?_
  refine R_vq rfl rfl rfl rfl rfl rfl rfl (Nat.le_of_ble_eq_true rfl) hX ?_
  intro v M2 hv
  obtain ⟨y, rfl⟩ := hQ v M2 hv
  exact R_iret rfl rfl trivial hv
theorem r_op26 {d : Nat} {M : Mem} {a w p f q b s : Nat} (ha : M 10 0 = nI a) (hw : M 5 0 = nI w) (haw : a < w) (hw2 : w ≤ 2000) (hB : M 4 a = nI b) (hb2 : b ≤ 15) (hp : M 14 0 = nI p) (hp1 : p ≤ 1000) (hf : M 22 0 = nI f) (hf0 : 0 < f) (hf1 : f ≤ 200) (hq : M 15 (f - 1) = nI q) (hqp : q ≤ p) (ho : M 2 a = nI 26) (hen : wnt 26 b ≤ p - q) {Q : Option Value → Mem → Prop} (hQ : ∀ v M', Q v M' → ∃ x, v = some (.int x)) (hX : CQ (d + 6) j_X9_adopt [.ref 0] M Q) : CQ (d + 7) j_X9_oneStep [.ref 0] M Q := by
  have hen : 2 ≤ p - q := hen
  have hwn : nI (wnt 26 b) = nI (2) := rfl
  refine CQ_of (md := md_X9_oneStep) (d := d + 6) rfl (Nat.le_of_ble_eq_true rfl) ?_
  show WR (CalR (d + 6)) t_X9_oneStep 9 (some .int) _ 0 [(0, .ref 0)] [] _
  refine R_aload_n rfl rfl ?_
  refine R_getI rfl rfl (Or.inl rfl) ?_
  try refine R_top (y := nI _) (by assumption) ?_
  refine R_aload_n rfl rfl ?_
  refine R_getI rfl rfl (Or.inl rfl) ?_
  try refine R_top (y := nI _) (by assumption) ?_
  refine R_icF rfl (by first | assumption | exact icF (by decide) | exact ic_F (by omega) (by omega) (by simp only [icN, not_true_eq_false, not_false_eq_true] <;> omega) | exact ic_F0 (by omega) (by simp only [icN, not_true_eq_false, not_false_eq_true] <;> omega)) ?_
  refine R_aload_n rfl rfl ?_
  refine R_getA rfl rfl (Or.inl rfl) ?_
  refine R_aload_n rfl rfl ?_
  refine R_getI rfl rfl (Or.inl rfl) ?_
  try refine R_top (y := nI _) (by assumption) ?_
  refine R_iald rfl rfl rfl (show _ < 2000 from by omega) ?_
  try refine R_top (y := nI _) (by assumption) ?_
  refine R_ifT (pc' := 39) rfl rfl (by first | assumption | exact icT (by decide) | exact ic_T (by omega) (by omega) (by simp only [icN, not_true_eq_false, not_false_eq_true] <;> omega) | exact ic_T0 (by omega) (by simp only [icN, not_true_eq_false, not_false_eq_true] <;> omega)) ?_
  refine R_aload_n rfl rfl ?_
  refine R_getA rfl rfl (Or.inl rfl) ?_
  refine R_aload_n rfl rfl ?_
  refine R_getI rfl rfl (Or.inl rfl) ?_
  try refine R_top (y := nI _) (by assumption) ?_
  refine R_iald rfl rfl rfl (show _ < 2000 from by omega) ?_
  try refine R_top (y := nI _) (by assumption) ?_
  refine R_istore_n (lv' := [(1, _), (0, _)]) rfl rfl ?_
  refine R_aload_n rfl rfl ?_
  refine R_getA rfl rfl (Or.inl rfl) ?_
  refine R_aload_n rfl rfl ?_
  refine R_getI rfl rfl (Or.inl rfl) ?_
  try refine R_top (y := nI _) (by assumption) ?_
  refine R_iald rfl rfl rfl (show _ < 2000 from by omega) ?_
  try refine R_top (y := nI _) (by assumption) ?_
  refine R_istore_n (lv' := [(2, _), (1, _), (0, _)]) rfl rfl ?_
  refine R_aload_n rfl rfl ?_
  refine R_getI rfl rfl (Or.inl rfl) ?_
  try refine R_top (y := nI _) (by assumption) ?_
  refine R_aload_n rfl rfl ?_
  refine R_getA rfl rfl (Or.inl rfl) ?_
  refine R_aload_n rfl rfl ?_
  refine R_getI rfl rfl (Or.inl rfl) ?_
  try refine R_top (y := nI _) (by assumption) ?_
  refine R_iconst (y := nI 1) rfl (by decide) ?_
  first | refine R_isubN rfl (by omega) ?_ | refine R_isub rfl ?_
  refine R_iald rfl rfl rfl (show _ < 200 from by omega) ?_
  try refine R_top (y := nI _) (by assumption) ?_
  first | refine R_isubN rfl (by omega) ?_ | refine R_isub rfl ?_
  refine R_iload_n rfl rfl ?_
  refine R_aload_n rfl rfl ?_
  refine R_getA rfl rfl (Or.inl rfl) ?_
  refine R_aload_n rfl rfl ?_
  refine R_getI rfl rfl (Or.inl rfl) ?_
  try refine R_top (y := nI _) (by assumption) ?_
  refine R_iald rfl rfl rfl (show _ < 2000 from by omega) ?_
  try refine R_top (y := nI _) (by assumption) ?_
  refine R_stat rfl rfl rfl (Nat.le_of_ble_eq_true rfl) rfl rfl (Nat.le_of_ble_eq_true rfl) (fun _ q => by cases q) (r_wants26) ?_
  try refine R_top (y := nI _) (by assumption) ?_
  refine R_icT (pc' := 97) rfl rfl (by first | assumption | exact icT (by decide) | exact ic_T (by omega) (by omega) (by simp only [icN, not_true_eq_false, not_false_eq_true] <;> omega) | exact ic_T0 (by omega) (by simp only [icN, not_true_eq_false, not_false_eq_true] <;> omega)) ?_
  refine R_iload_n rfl rfl ?_
  refine R_bipush (y := nI 19) rfl (by decide) ?_
  refine R_icT (pc' := 110) rfl rfl (by first | assumption | exact icT (by decide) | exact ic_T (by omega) (by omega) (by simp only [icN, not_true_eq_false, not_false_eq_true] <;> omega) | exact ic_T0 (by omega) (by simp only [icN, not_true_eq_false, not_false_eq_true] <;> omega)) ?_
  refine R_iload_n rfl rfl ?_
  refine R_table (pc' := 242) rfl (by decide) ?_
  refine R_aload_n rfl rfl ?_
  refine R_vq rfl rfl rfl rfl rfl rfl rfl (Nat.le_of_ble_eq_true rfl) hX ?_
  intro v M2 hv
  obtain ⟨y, rfl⟩ := hQ v M2 hv
  exact R_iret rfl rfl trivial hv
theorem r_op27 {d : Nat} {M : Mem} {a w p f q b s : Nat} (ha : M 10 0 = nI a) (hw : M 5 0 = nI w) (haw : a < w) (hw2 : w ≤ 2000) (hB : M 4 a = nI b) (hb2 : b ≤ 15) (hp : M 14 0 = nI p) (hp1 : p ≤ 1000) (hf : M 22 0 = nI f) (hf0 : 0 < f) (hf1 : f ≤ 200) (hq : M 15 (f - 1) = nI q) (hqp : q ≤ p) (ho : M 2 a = nI 27) (hen : wnt 27 b ≤ p - q) {Q : Option Value → Mem → Prop} (hQ : ∀ v M', Q v M' → ∃ x, v = some (.int x)) (hX : CQ (d + 6) j_X9_proto [.ref 0, .int (M 3 a)] M Q) : CQ (d + 7) j_X9_oneStep [.ref 0] M Q := by
  have hen : 1 ≤ p - q := hen
  have hwn : nI (wnt 27 b) = nI (1) := rfl
  refine CQ_of (md := md_X9_oneStep) (d := d + 6) rfl (Nat.le_of_ble_eq_true rfl) ?_
  show WR (CalR (d + 6)) t_X9_oneStep 9 (some .int) _ 0 [(0, .ref 0)] [] _
  refine R_aload_n rfl rfl ?_
  refine R_getI rfl rfl (Or.inl rfl) ?_
  try refine R_top (y := nI _) (by assumption) ?_
  refine R_aload_n rfl rfl ?_
  refine R_getI rfl rfl (Or.inl rfl) ?_
  try refine R_top (y := nI _) (by assumption) ?_
  refine R_icF rfl (by first | assumption | exact icF (by decide) | exact ic_F (by omega) (by omega) (by simp only [icN, not_true_eq_false, not_false_eq_true] <;> omega) | exact ic_F0 (by omega) (by simp only [icN, not_true_eq_false, not_false_eq_true] <;> omega)) ?_
  refine R_aload_n rfl rfl ?_
  refine R_getA rfl rfl (Or.inl rfl) ?_
  refine R_aload_n rfl rfl ?_
  refine R_getI rfl rfl (Or.inl rfl) ?_
  try refine R_top (y := nI _) (by assumption) ?_
  refine R_iald rfl rfl rfl (show _ < 2000 from by omega) ?_
  try refine R_top (y := nI _) (by assumption) ?_
  refine R_ifT (pc' := 39) rfl rfl (by first | assumption | exact icT (by decide) | exact ic_T (by omega) (by omega) (by simp only [icN, not_true_eq_false, not_false_eq_true] <;> omega) | exact ic_T0 (by omega) (by simp only [icN, not_true_eq_false, not_false_eq_true] <;> omega)) ?_
  refine R_aload_n rfl rfl ?_
  refine R_getA rfl rfl (Or.inl rfl) ?_
  refine R_aload_n rfl rfl ?_
  refine R_getI rfl rfl (Or.inl rfl) ?_
  try refine R_top (y := nI _) (by assumption) ?_
  refine R_iald rfl rfl rfl (show _ < 2000 from by omega) ?_
  try refine R_top (y := nI _) (by assumption) ?_
  refine R_istore_n (lv' := [(1, _), (0, _)]) rfl rfl ?_
  refine R_aload_n rfl rfl ?_
  refine R_getA rfl rfl (Or.inl rfl) ?_
  refine R_aload_n rfl rfl ?_
  refine R_getI rfl rfl (Or.inl rfl) ?_
  try refine R_top (y := nI _) (by assumption) ?_
  refine R_iald rfl rfl rfl (show _ < 2000 from by omega) ?_
  try refine R_top (y := nI _) (by assumption) ?_
  refine R_istore_n (lv' := [(2, _), (1, _), (0, _)]) rfl rfl ?_
  refine R_aload_n rfl rfl ?_
  refine R_getI rfl rfl (Or.inl rfl) ?_
  try refine R_top (y := nI _) (by assumption) ?_
  refine R_aload_n rfl rfl ?_
  refine R_getA rfl rfl (Or.inl rfl) ?_
  refine R_aload_n rfl rfl ?_
  refine R_getI rfl rfl (Or.inl rfl) ?_
  try refine R_top (y := nI _) (by assumption) ?_
  refine R_iconst (y := nI 1) rfl (by decide) ?_
  first | refine R_isubN rfl (by omega) ?_ | refine R_isub rfl ?_
  refine R_iald rfl rfl rfl (show _ < 200 from by omega) ?_
  try refine R_top (y := nI _) (by assumption) ?_
  first | refine R_isubN rfl (by omega) ?_ | refine R_isub rfl ?_
  refine R_iload_n rfl rfl ?_
  refine R_aload_n rfl rfl ?_
  refine R_getA rfl rfl (Or.inl rfl) ?_
  refine R_aload_n rfl rfl ?_
  refine R_getI rfl rfl (Or.inl rfl) ?_
  try refine R_top (y := nI _) (by assumption) ?_
  refine R_iald rfl rfl rfl (show _ < 2000 from by omega) ?_
  try refine R_top (y := nI _) (by assumption) ?_
  refine R_stat rfl rfl rfl (Nat.le_of_ble_eq_true rfl) rfl rfl (Nat.le_of_ble_eq_true rfl) (fun _ q => by cases q) (r_wants27) ?_
  try refine R_top (y := nI _) (by assumption) ?_
  refine R_icT (pc' := 97) rfl rfl (by first | assumption | exact icT (by decide) | exact ic_T (by omega) (by omega) (by simp only [icN, not_true_eq_false, not_false_eq_true] <;> omega) | exact ic_T0 (by omega) (by simp only [icN, not_true_eq_false, not_false_eq_true] <;> omega)) ?_
  refine R_iload_n rfl rfl ?_
  refine R_bipush (y := nI 19) rfl (by decide) ?_
  refine R_icT (pc' := 110) rfl rfl (by first | assumption | exact icT (by decide) | exact ic_T (by omega) (by omega) (by simp only [icN, not_true_eq_false, not_false_eq_true] <;> omega) | exact ic_T0 (by omega) (by simp only [icN, not_true_eq_false, not_false_eq_true] <;> omega)) ?_
  refine R_iload_n rfl rfl ?_
  refine R_table (pc' := 247) rfl (by decide) ?_
  refine R_aload_n rfl rfl ?_
  refine R_iload_n rfl rfl ?_
  refine R_vq rfl rfl rfl rfl rfl rfl rfl (Nat.le_of_ble_eq_true rfl) hX ?_
  intro v M2 hv
  obtain ⟨y, rfl⟩ := hQ v M2 hv
  exact R_iret rfl rfl trivial hv
theorem r_op28 {d : Nat} {M : Mem} {a w p f q b s : Nat} (ha : M 10 0 = nI a) (hw : M 5 0 = nI w) (haw : a < w) (hw2 : w ≤ 2000) (hB : M 4 a = nI b) (hb2 : b ≤ 15) (hp : M 14 0 = nI p) (hp1 : p ≤ 1000) (hf : M 22 0 = nI f) (hf0 : 0 < f) (hf1 : f ≤ 200) (hq : M 15 (f - 1) = nI q) (hqp : q ≤ p) (ho : M 2 a = nI 28) (hen : wnt 28 b ≤ p - q) {l : Nat} (hl : M 3 a = nI l) (hl2 : l < 200) {Q : Option Value → Mem → Prop} (hQ : ∀ v M', Q v M' → ∃ x, v = some (.int x)) (hX : CQ (d + 6) j_X9_put [.ref 0, .int (nI 3), .int (M 6 l)] M Q) : CQ (d + 7) j_X9_oneStep [.ref 0] M Q := by
  have hen : 0 ≤ p - q := hen
  have hwn : nI (wnt 28 b) = nI (0) := rfl
  refine CQ_of (md := md_X9_oneStep) (d := d + 6) rfl (Nat.le_of_ble_eq_true rfl) ?_
  show WR (CalR (d + 6)) t_X9_oneStep 9 (some .int) _ 0 [(0, .ref 0)] [] _
  refine R_aload_n rfl rfl ?_
  refine R_getI rfl rfl (Or.inl rfl) ?_
  try refine R_top (y := nI _) (by assumption) ?_
  refine R_aload_n rfl rfl ?_
  refine R_getI rfl rfl (Or.inl rfl) ?_
  try refine R_top (y := nI _) (by assumption) ?_
  refine R_icF rfl (by first | assumption | exact icF (by decide) | exact ic_F (by omega) (by omega) (by simp only [icN, not_true_eq_false, not_false_eq_true] <;> omega) | exact ic_F0 (by omega) (by simp only [icN, not_true_eq_false, not_false_eq_true] <;> omega)) ?_
  refine R_aload_n rfl rfl ?_
  refine R_getA rfl rfl (Or.inl rfl) ?_
  refine R_aload_n rfl rfl ?_
  refine R_getI rfl rfl (Or.inl rfl) ?_
  try refine R_top (y := nI _) (by assumption) ?_
  refine R_iald rfl rfl rfl (show _ < 2000 from by omega) ?_
  try refine R_top (y := nI _) (by assumption) ?_
  refine R_ifT (pc' := 39) rfl rfl (by first | assumption | exact icT (by decide) | exact ic_T (by omega) (by omega) (by simp only [icN, not_true_eq_false, not_false_eq_true] <;> omega) | exact ic_T0 (by omega) (by simp only [icN, not_true_eq_false, not_false_eq_true] <;> omega)) ?_
  refine R_aload_n rfl rfl ?_
  refine R_getA rfl rfl (Or.inl rfl) ?_
  refine R_aload_n rfl rfl ?_
  refine R_getI rfl rfl (Or.inl rfl) ?_
  try refine R_top (y := nI _) (by assumption) ?_
  refine R_iald rfl rfl rfl (show _ < 2000 from by omega) ?_
  try refine R_top (y := nI _) (by assumption) ?_
  refine R_istore_n (lv' := [(1, _), (0, _)]) rfl rfl ?_
  refine R_aload_n rfl rfl ?_
  refine R_getA rfl rfl (Or.inl rfl) ?_
  refine R_aload_n rfl rfl ?_
  refine R_getI rfl rfl (Or.inl rfl) ?_
  try refine R_top (y := nI _) (by assumption) ?_
  refine R_iald rfl rfl rfl (show _ < 2000 from by omega) ?_
  try refine R_top (y := nI _) (by assumption) ?_
  refine R_istore_n (lv' := [(2, _), (1, _), (0, _)]) rfl rfl ?_
  refine R_aload_n rfl rfl ?_
  refine R_getI rfl rfl (Or.inl rfl) ?_
  try refine R_top (y := nI _) (by assumption) ?_
  refine R_aload_n rfl rfl ?_
  refine R_getA rfl rfl (Or.inl rfl) ?_
  refine R_aload_n rfl rfl ?_
  refine R_getI rfl rfl (Or.inl rfl) ?_
  try refine R_top (y := nI _) (by assumption) ?_
  refine R_iconst (y := nI 1) rfl (by decide) ?_
  first | refine R_isubN rfl (by omega) ?_ | refine R_isub rfl ?_
  refine R_iald rfl rfl rfl (show _ < 200 from by omega) ?_
  try refine R_top (y := nI _) (by assumption) ?_
  first | refine R_isubN rfl (by omega) ?_ | refine R_isub rfl ?_
  refine R_iload_n rfl rfl ?_
  refine R_aload_n rfl rfl ?_
  refine R_getA rfl rfl (Or.inl rfl) ?_
  refine R_aload_n rfl rfl ?_
  refine R_getI rfl rfl (Or.inl rfl) ?_
  try refine R_top (y := nI _) (by assumption) ?_
  refine R_iald rfl rfl rfl (show _ < 2000 from by omega) ?_
  try refine R_top (y := nI _) (by assumption) ?_
  refine R_stat rfl rfl rfl (Nat.le_of_ble_eq_true rfl) rfl rfl (Nat.le_of_ble_eq_true rfl) (fun _ q => by cases q) (r_wants28) ?_
  try refine R_top (y := nI _) (by assumption) ?_
  refine R_icT (pc' := 97) rfl rfl (by first | assumption | exact icT (by decide) | exact ic_T (by omega) (by omega) (by simp only [icN, not_true_eq_false, not_false_eq_true] <;> omega) | exact ic_T0 (by omega) (by simp only [icN, not_true_eq_false, not_false_eq_true] <;> omega)) ?_
  refine R_iload_n rfl rfl ?_
  refine R_bipush (y := nI 19) rfl (by decide) ?_
  refine R_icT (pc' := 110) rfl rfl (by first | assumption | exact icT (by decide) | exact ic_T (by omega) (by omega) (by simp only [icN, not_true_eq_false, not_false_eq_true] <;> omega) | exact ic_T0 (by omega) (by simp only [icN, not_true_eq_false, not_false_eq_true] <;> omega)) ?_
  refine R_iload_n rfl rfl ?_
  refine R_table (pc' := 253) rfl (by decide) ?_
  refine R_aload_n rfl rfl ?_
  refine R_iconst (y := nI 3) rfl (by decide) ?_
  refine R_aload_n rfl rfl ?_
  refine R_getA rfl rfl (Or.inl rfl) ?_
  refine R_iload_n rfl rfl ?_
  refine R_iald rfl rfl rfl (show _ < 200 from by omega) ?_
  try refine R_top (y := nI _) (by assumption) ?_
  refine R_vq rfl rfl rfl rfl rfl rfl rfl (Nat.le_of_ble_eq_true rfl) hX ?_
  intro v M2 hv
  obtain ⟨y, rfl⟩ := hQ v M2 hv
  exact R_iret rfl rfl trivial hv
theorem r_op29 {d : Nat} {M : Mem} {a w p f q b s : Nat} (ha : M 10 0 = nI a) (hw : M 5 0 = nI w) (haw : a < w) (hw2 : w ≤ 2000) (hB : M 4 a = nI b) (hb2 : b ≤ 15) (hp : M 14 0 = nI p) (hp1 : p ≤ 1000) (hf : M 22 0 = nI f) (hf0 : 0 < f) (hf1 : f ≤ 200) (hq : M 15 (f - 1) = nI q) (hqp : q ≤ p) (ho : M 2 a = nI 29) (hen : wnt 29 b ≤ p - q) {Q : Option Value → Mem → Prop} (hQ : ∀ v M', Q v M' → ∃ x, v = some (.int x)) (hX : CQ (d + 6) j_X9_send [.ref 0, .int (M 3 a), .int (nI b)] M Q) : CQ (d + 7) j_X9_oneStep [.ref 0] M Q := by
  have hen : b + 1 ≤ p - q := hen
  have hwn : nI (wnt 29 b) = nI (b + 1) := rfl
  refine CQ_of (md := md_X9_oneStep) (d := d + 6) rfl (Nat.le_of_ble_eq_true rfl) ?_
  show WR (CalR (d + 6)) t_X9_oneStep 9 (some .int) _ 0 [(0, .ref 0)] [] _
  refine R_aload_n rfl rfl ?_
  refine R_getI rfl rfl (Or.inl rfl) ?_
  try refine R_top (y := nI _) (by assumption) ?_
  refine R_aload_n rfl rfl ?_
  refine R_getI rfl rfl (Or.inl rfl) ?_
  try refine R_top (y := nI _) (by assumption) ?_
  refine R_icF rfl (by first | assumption | exact icF (by decide) | exact ic_F (by omega) (by omega) (by simp only [icN, not_true_eq_false, not_false_eq_true] <;> omega) | exact ic_F0 (by omega) (by simp only [icN, not_true_eq_false, not_false_eq_true] <;> omega)) ?_
  refine R_aload_n rfl rfl ?_
  refine R_getA rfl rfl (Or.inl rfl) ?_
  refine R_aload_n rfl rfl ?_
  refine R_getI rfl rfl (Or.inl rfl) ?_
  try refine R_top (y := nI _) (by assumption) ?_
  refine R_iald rfl rfl rfl (show _ < 2000 from by omega) ?_
  try refine R_top (y := nI _) (by assumption) ?_
  refine R_ifT (pc' := 39) rfl rfl (by first | assumption | exact icT (by decide) | exact ic_T (by omega) (by omega) (by simp only [icN, not_true_eq_false, not_false_eq_true] <;> omega) | exact ic_T0 (by omega) (by simp only [icN, not_true_eq_false, not_false_eq_true] <;> omega)) ?_
  refine R_aload_n rfl rfl ?_
  refine R_getA rfl rfl (Or.inl rfl) ?_
  refine R_aload_n rfl rfl ?_
  refine R_getI rfl rfl (Or.inl rfl) ?_
  try refine R_top (y := nI _) (by assumption) ?_
  refine R_iald rfl rfl rfl (show _ < 2000 from by omega) ?_
  try refine R_top (y := nI _) (by assumption) ?_
  refine R_istore_n (lv' := [(1, _), (0, _)]) rfl rfl ?_
  refine R_aload_n rfl rfl ?_
  refine R_getA rfl rfl (Or.inl rfl) ?_
  refine R_aload_n rfl rfl ?_
  refine R_getI rfl rfl (Or.inl rfl) ?_
  try refine R_top (y := nI _) (by assumption) ?_
  refine R_iald rfl rfl rfl (show _ < 2000 from by omega) ?_
  try refine R_top (y := nI _) (by assumption) ?_
  refine R_istore_n (lv' := [(2, _), (1, _), (0, _)]) rfl rfl ?_
  refine R_aload_n rfl rfl ?_
  refine R_getI rfl rfl (Or.inl rfl) ?_
  try refine R_top (y := nI _) (by assumption) ?_
  refine R_aload_n rfl rfl ?_
  refine R_getA rfl rfl (Or.inl rfl) ?_
  refine R_aload_n rfl rfl ?_
  refine R_getI rfl rfl (Or.inl rfl) ?_
  try refine R_top (y := nI _) (by assumption) ?_
  refine R_iconst (y := nI 1) rfl (by decide) ?_
  first | refine R_isubN rfl (by omega) ?_ | refine R_isub rfl ?_
  refine R_iald rfl rfl rfl (show _ < 200 from by omega) ?_
  try refine R_top (y := nI _) (by assumption) ?_
  first | refine R_isubN rfl (by omega) ?_ | refine R_isub rfl ?_
  refine R_iload_n rfl rfl ?_
  refine R_aload_n rfl rfl ?_
  refine R_getA rfl rfl (Or.inl rfl) ?_
  refine R_aload_n rfl rfl ?_
  refine R_getI rfl rfl (Or.inl rfl) ?_
  try refine R_top (y := nI _) (by assumption) ?_
  refine R_iald rfl rfl rfl (show _ < 2000 from by omega) ?_
  try refine R_top (y := nI _) (by assumption) ?_
  refine R_stat rfl rfl rfl (Nat.le_of_ble_eq_true rfl) rfl rfl (Nat.le_of_ble_eq_true rfl) (fun _ q => by cases q) (r_wants29) ?_
  try refine R_top (y := nI _) (by assumption) ?_
  refine R_icT (pc' := 97) rfl rfl (by first | assumption | exact icT (by decide) | exact ic_T (by omega) (by omega) (by simp only [icN, not_true_eq_false, not_false_eq_true] <;> omega) | exact ic_T0 (by omega) (by simp only [icN, not_true_eq_false, not_false_eq_true] <;> omega)) ?_
  refine R_iload_n rfl rfl ?_
  refine R_bipush (y := nI 19) rfl (by decide) ?_
  refine R_icT (pc' := 110) rfl rfl (by first | assumption | exact icT (by decide) | exact ic_T (by omega) (by omega) (by simp only [icN, not_true_eq_false, not_false_eq_true] <;> omega) | exact ic_T0 (by omega) (by simp only [icN, not_true_eq_false, not_false_eq_true] <;> omega)) ?_
  refine R_iload_n rfl rfl ?_
  refine R_table (pc' := 265) rfl (by decide) ?_
  refine R_aload_n rfl rfl ?_
  refine R_iload_n rfl rfl ?_
  refine R_aload_n rfl rfl ?_
  refine R_getA rfl rfl (Or.inl rfl) ?_
  refine R_aload_n rfl rfl ?_
  refine R_getI rfl rfl (Or.inl rfl) ?_
  try refine R_top (y := nI _) (by assumption) ?_
  refine R_iald rfl rfl rfl (show _ < 2000 from by omega) ?_
  try refine R_top (y := nI _) (by assumption) ?_
  refine R_vq rfl rfl rfl rfl rfl rfl rfl (Nat.le_of_ble_eq_true rfl) hX ?_
  intro v M2 hv
  obtain ⟨y, rfl⟩ := hQ v M2 hv
  exact R_iret rfl rfl trivial hv
theorem r_op30 {d : Nat} {M : Mem} {a w p f q b s : Nat} (ha : M 10 0 = nI a) (hw : M 5 0 = nI w) (haw : a < w) (hw2 : w ≤ 2000) (hB : M 4 a = nI b) (hb2 : b ≤ 15) (hp : M 14 0 = nI p) (hp1 : p ≤ 1000) (hf : M 22 0 = nI f) (hf0 : 0 < f) (hf1 : f ≤ 200) (hq : M 15 (f - 1) = nI q) (hqp : q ≤ p) (ho : M 2 a = nI 30) (hen : wnt 30 b ≤ p - q) {Q : Option Value → Mem → Prop} (hQ : ∀ v M', Q v M' → ∃ x, v = some (.int x)) (hX : CQ (d + 6) j_X9_put [.ref 0, .int (M 17 (f - 1)), .int (M 18 (f - 1))] M Q) : CQ (d + 7) j_X9_oneStep [.ref 0] M Q := by
  have hen : 0 ≤ p - q := hen
  have hwn : nI (wnt 30 b) = nI (0) := rfl
  refine CQ_of (md := md_X9_oneStep) (d := d + 6) rfl (Nat.le_of_ble_eq_true rfl) ?_
  show WR (CalR (d + 6)) t_X9_oneStep 9 (some .int) _ 0 [(0, .ref 0)] [] _
  refine R_aload_n rfl rfl ?_
  refine R_getI rfl rfl (Or.inl rfl) ?_
  try refine R_top (y := nI _) (by assumption) ?_
  refine R_aload_n rfl rfl ?_
  refine R_getI rfl rfl (Or.inl rfl) ?_
  try refine R_top (y := nI _) (by assumption) ?_
  refine R_icF rfl (by first | assumption | exact icF (by decide) | exact ic_F (by omega) (by omega) (by simp only [icN, not_true_eq_false, not_false_eq_true] <;> omega) | exact ic_F0 (by omega) (by simp only [icN, not_true_eq_false, not_false_eq_true] <;> omega)) ?_
  refine R_aload_n rfl rfl ?_
  refine R_getA rfl rfl (Or.inl rfl) ?_
  refine R_aload_n rfl rfl ?_
  refine R_getI rfl rfl (Or.inl rfl) ?_
  try refine R_top (y := nI _) (by assumption) ?_
  refine R_iald rfl rfl rfl (show _ < 2000 from by omega) ?_
  try refine R_top (y := nI _) (by assumption) ?_
  refine R_ifT (pc' := 39) rfl rfl (by first | assumption | exact icT (by decide) | exact ic_T (by omega) (by omega) (by simp only [icN, not_true_eq_false, not_false_eq_true] <;> omega) | exact ic_T0 (by omega) (by simp only [icN, not_true_eq_false, not_false_eq_true] <;> omega)) ?_
  refine R_aload_n rfl rfl ?_
  refine R_getA rfl rfl (Or.inl rfl) ?_
  refine R_aload_n rfl rfl ?_
  refine R_getI rfl rfl (Or.inl rfl) ?_
  try refine R_top (y := nI _) (by assumption) ?_
  refine R_iald rfl rfl rfl (show _ < 2000 from by omega) ?_
  try refine R_top (y := nI _) (by assumption) ?_
  refine R_istore_n (lv' := [(1, _), (0, _)]) rfl rfl ?_
  refine R_aload_n rfl rfl ?_
  refine R_getA rfl rfl (Or.inl rfl) ?_
  refine R_aload_n rfl rfl ?_
  refine R_getI rfl rfl (Or.inl rfl) ?_
  try refine R_top (y := nI _) (by assumption) ?_
  refine R_iald rfl rfl rfl (show _ < 2000 from by omega) ?_
  try refine R_top (y := nI _) (by assumption) ?_
  refine R_istore_n (lv' := [(2, _), (1, _), (0, _)]) rfl rfl ?_
  refine R_aload_n rfl rfl ?_
  refine R_getI rfl rfl (Or.inl rfl) ?_
  try refine R_top (y := nI _) (by assumption) ?_
  refine R_aload_n rfl rfl ?_
  refine R_getA rfl rfl (Or.inl rfl) ?_
  refine R_aload_n rfl rfl ?_
  refine R_getI rfl rfl (Or.inl rfl) ?_
  try refine R_top (y := nI _) (by assumption) ?_
  refine R_iconst (y := nI 1) rfl (by decide) ?_
  first | refine R_isubN rfl (by omega) ?_ | refine R_isub rfl ?_
  refine R_iald rfl rfl rfl (show _ < 200 from by omega) ?_
  try refine R_top (y := nI _) (by assumption) ?_
  first | refine R_isubN rfl (by omega) ?_ | refine R_isub rfl ?_
  refine R_iload_n rfl rfl ?_
  refine R_aload_n rfl rfl ?_
  refine R_getA rfl rfl (Or.inl rfl) ?_
  refine R_aload_n rfl rfl ?_
  refine R_getI rfl rfl (Or.inl rfl) ?_
  try refine R_top (y := nI _) (by assumption) ?_
  refine R_iald rfl rfl rfl (show _ < 2000 from by omega) ?_
  try refine R_top (y := nI _) (by assumption) ?_
  refine R_stat rfl rfl rfl (Nat.le_of_ble_eq_true rfl) rfl rfl (Nat.le_of_ble_eq_true rfl) (fun _ q => by cases q) (r_wants30) ?_
  try refine R_top (y := nI _) (by assumption) ?_
  refine R_icT (pc' := 97) rfl rfl (by first | assumption | exact icT (by decide) | exact ic_T (by omega) (by omega) (by simp only [icN, not_true_eq_false, not_false_eq_true] <;> omega) | exact ic_T0 (by omega) (by simp only [icN, not_true_eq_false, not_false_eq_true] <;> omega)) ?_
  refine R_iload_n rfl rfl ?_
  refine R_bipush (y := nI 19) rfl (by decide) ?_
  refine R_icT (pc' := 110) rfl rfl (by first | assumption | exact icT (by decide) | exact ic_T (by omega) (by omega) (by simp only [icN, not_true_eq_false, not_false_eq_true] <;> omega) | exact ic_T0 (by omega) (by simp only [icN, not_true_eq_false, not_false_eq_true] <;> omega)) ?_
  refine R_iload_n rfl rfl ?_
  refine R_table (pc' := 280) rfl (by decide) ?_
  refine R_aload_n rfl rfl ?_
  refine R_aload_n rfl rfl ?_
  refine R_getA rfl rfl (Or.inl rfl) ?_
  refine R_aload_n rfl rfl ?_
  refine R_getI rfl rfl (Or.inl rfl) ?_
  try refine R_top (y := nI _) (by assumption) ?_
  refine R_iconst (y := nI 1) rfl (by decide) ?_
  first | refine R_isubN rfl (by omega) ?_ | refine R_isub rfl ?_
  refine R_iald rfl rfl rfl (show _ < 200 from by omega) ?_
  try refine R_top (y := nI _) (by assumption) ?_
  refine R_aload_n rfl rfl ?_
  refine R_getA rfl rfl (Or.inl rfl) ?_
  refine R_aload_n rfl rfl ?_
  refine R_getI rfl rfl (Or.inl rfl) ?_
  try refine R_top (y := nI _) (by assumption) ?_
  refine R_iconst (y := nI 1) rfl (by decide) ?_
  first | refine R_isubN rfl (by omega) ?_ | refine R_isub rfl ?_
  refine R_iald rfl rfl rfl (show _ < 200 from by omega) ?_
  try refine R_top (y := nI _) (by assumption) ?_
  refine R_vq rfl rfl rfl rfl rfl rfl rfl (Nat.le_of_ble_eq_true rfl) hX ?_
  intro v M2 hv
  obtain ⟨y, rfl⟩ := hQ v M2 hv
  exact R_iret rfl rfl trivial hv
theorem r_op31 {d : Nat} {M : Mem} {a w p f q b s : Nat} (ha : M 10 0 = nI a) (hw : M 5 0 = nI w) (haw : a < w) (hw2 : w ≤ 2000) (hB : M 4 a = nI b) (hb2 : b ≤ 15) (hp : M 14 0 = nI p) (hp1 : p ≤ 1000) (hf : M 22 0 = nI f) (hf0 : 0 < f) (hf1 : f ≤ 200) (hq : M 15 (f - 1) = nI q) (hqp : q ≤ p) (ho : M 2 a = nI 31) (hen : wnt 31 b ≤ p - q) {Q : Option Value → Mem → Prop} (hQ : ∀ v M', Q v M' → ∃ x, v = some (.int x)) (hX : CQ (d + 6) j_X9_giveBack [.ref 0] M Q) : CQ (d + 7) j_X9_oneStep [.ref 0] M Q := by
  have hen : 1 ≤ p - q := hen
  have hwn : nI (wnt 31 b) = nI (1) := rfl
  refine CQ_of (md := md_X9_oneStep) (d := d + 6) rfl (Nat.le_of_ble_eq_true rfl) ?_
  show WR (CalR (d + 6)) t_X9_oneStep 9 (some .int) _ 0 [(0, .ref 0)] [] _
  refine R_aload_n rfl rfl ?_
  refine R_getI rfl rfl (Or.inl rfl) ?_
  try refine R_top (y := nI _) (by assumption) ?_
  refine R_aload_n rfl rfl ?_
  refine R_getI rfl rfl (Or.inl rfl) ?_
  try refine R_top (y := nI _) (by assumption) ?_
  refine R_icF rfl (by first | assumption | exact icF (by decide) | exact ic_F (by omega) (by omega) (by simp only [icN, not_true_eq_false, not_false_eq_true] <;> omega) | exact ic_F0 (by omega) (by simp only [icN, not_true_eq_false, not_false_eq_true] <;> omega)) ?_
  refine R_aload_n rfl rfl ?_
  refine R_getA rfl rfl (Or.inl rfl) ?_
  refine R_aload_n rfl rfl ?_
  refine R_getI rfl rfl (Or.inl rfl) ?_
  try refine R_top (y := nI _) (by assumption) ?_
  refine R_iald rfl rfl rfl (show _ < 2000 from by omega) ?_
  try refine R_top (y := nI _) (by assumption) ?_
  refine R_ifT (pc' := 39) rfl rfl (by first | assumption | exact icT (by decide) | exact ic_T (by omega) (by omega) (by simp only [icN, not_true_eq_false, not_false_eq_true] <;> omega) | exact ic_T0 (by omega) (by simp only [icN, not_true_eq_false, not_false_eq_true] <;> omega)) ?_
  refine R_aload_n rfl rfl ?_
  refine R_getA rfl rfl (Or.inl rfl) ?_
  refine R_aload_n rfl rfl ?_
  refine R_getI rfl rfl (Or.inl rfl) ?_
  try refine R_top (y := nI _) (by assumption) ?_
  refine R_iald rfl rfl rfl (show _ < 2000 from by omega) ?_
  try refine R_top (y := nI _) (by assumption) ?_
  refine R_istore_n (lv' := [(1, _), (0, _)]) rfl rfl ?_
  refine R_aload_n rfl rfl ?_
  refine R_getA rfl rfl (Or.inl rfl) ?_
  refine R_aload_n rfl rfl ?_
  refine R_getI rfl rfl (Or.inl rfl) ?_
  try refine R_top (y := nI _) (by assumption) ?_
  refine R_iald rfl rfl rfl (show _ < 2000 from by omega) ?_
  try refine R_top (y := nI _) (by assumption) ?_
  refine R_istore_n (lv' := [(2, _), (1, _), (0, _)]) rfl rfl ?_
  refine R_aload_n rfl rfl ?_
  refine R_getI rfl rfl (Or.inl rfl) ?_
  try refine R_top (y := nI _) (by assumption) ?_
  refine R_aload_n rfl rfl ?_
  refine R_getA rfl rfl (Or.inl rfl) ?_
  refine R_aload_n rfl rfl ?_
  refine R_getI rfl rfl (Or.inl rfl) ?_
  try refine R_top (y := nI _) (by assumption) ?_
  refine R_iconst (y := nI 1) rfl (by decide) ?_
  first | refine R_isubN rfl (by omega) ?_ | refine R_isub rfl ?_
  refine R_iald rfl rfl rfl (show _ < 200 from by omega) ?_
  try refine R_top (y := nI _) (by assumption) ?_
  first | refine R_isubN rfl (by omega) ?_ | refine R_isub rfl ?_
  refine R_iload_n rfl rfl ?_
  refine R_aload_n rfl rfl ?_
  refine R_getA rfl rfl (Or.inl rfl) ?_
  refine R_aload_n rfl rfl ?_
  refine R_getI rfl rfl (Or.inl rfl) ?_
  try refine R_top (y := nI _) (by assumption) ?_
  refine R_iald rfl rfl rfl (show _ < 2000 from by omega) ?_
  try refine R_top (y := nI _) (by assumption) ?_
  refine R_stat rfl rfl rfl (Nat.le_of_ble_eq_true rfl) rfl rfl (Nat.le_of_ble_eq_true rfl) (fun _ q => by cases q) (r_wants31) ?_
  try refine R_top (y := nI _) (by assumption) ?_
  refine R_icT (pc' := 97) rfl rfl (by first | assumption | exact icT (by decide) | exact ic_T (by omega) (by omega) (by simp only [icN, not_true_eq_false, not_false_eq_true] <;> omega) | exact ic_T0 (by omega) (by simp only [icN, not_true_eq_false, not_false_eq_true] <;> omega)) ?_
  refine R_iload_n rfl rfl ?_
  refine R_bipush (y := nI 19) rfl (by decide) ?_
  refine R_icT (pc' := 110) rfl rfl (by first | assumption | exact icT (by decide) | exact ic_T (by omega) (by omega) (by simp only [icN, not_true_eq_false, not_false_eq_true] <;> omega) | exact ic_T0 (by omega) (by simp only [icN, not_true_eq_false, not_false_eq_true] <;> omega)) ?_
  refine R_iload_n rfl rfl ?_
  refine R_table (pc' := 307) rfl (by decide) ?_
  refine R_aload_n rfl rfl ?_
  refine R_vq rfl rfl rfl rfl rfl rfl rfl (Nat.le_of_ble_eq_true rfl) hX ?_
  intro v M2 hv
  obtain ⟨y, rfl⟩ := hQ v M2 hv
  exact R_iret rfl rfl trivial hv
theorem r_op32 {d : Nat} {M : Mem} {a w p f q b s : Nat} (ha : M 10 0 = nI a) (hw : M 5 0 = nI w) (haw : a < w) (hw2 : w ≤ 2000) (hB : M 4 a = nI b) (hb2 : b ≤ 15) (hp : M 14 0 = nI p) (hp1 : p ≤ 1000) (hf : M 22 0 = nI f) (hf0 : 0 < f) (hf1 : f ≤ 200) (hq : M 15 (f - 1) = nI q) (hqp : q ≤ p) (ho : M 2 a = nI 32) (hen : wnt 32 b ≤ p - q) {Q : Option Value → Mem → Prop} (hQ : ∀ v M', Q v M' → ∃ x, v = some (.int x)) (hX : CQ (d + 6) j_X9_print [.ref 0] M Q) : CQ (d + 7) j_X9_oneStep [.ref 0] M Q := by
  have hen : 1 ≤ p - q := hen
  have hwn : nI (wnt 32 b) = nI (1) := rfl
  refine CQ_of (md := md_X9_oneStep) (d := d + 6) rfl (Nat.le_of_ble_eq_true rfl) ?_
  show WR (CalR (d + 6)) t_X9_oneStep 9 (some .int) _ 0 [(0, .ref 0)] [] _
  refine R_aload_n rfl rfl ?_
  refine R_getI rfl rfl (Or.inl rfl) ?_
  try refine R_top (y := nI _) (by assumption) ?_
  refine R_aload_n rfl rfl ?_
  refine R_getI rfl rfl (Or.inl rfl) ?_
  try refine R_top (y := nI _) (by assumption) ?_
  refine R_icF rfl (by first | assumption | exact icF (by decide) | exact ic_F (by omega) (by omega) (by simp only [icN, not_true_eq_false, not_false_eq_true] <;> omega) | exact ic_F0 (by omega) (by simp only [icN, not_true_eq_false, not_false_eq_true] <;> omega)) ?_
  refine R_aload_n rfl rfl ?_
  refine R_getA rfl rfl (Or.inl rfl) ?_
  refine R_aload_n rfl rfl ?_
  refine R_getI rfl rfl (Or.inl rfl) ?_
  try refine R_top (y := nI _) (by assumption) ?_
  refine R_iald rfl rfl rfl (show _ < 2000 from by omega) ?_
  try refine R_top (y := nI _) (by assumption) ?_
  refine R_ifT (pc' := 39) rfl rfl (by first | assumption | exact icT (by decide) | exact ic_T (by omega) (by omega) (by simp only [icN, not_true_eq_false, not_false_eq_true] <;> omega) | exact ic_T0 (by omega) (by simp only [icN, not_true_eq_false, not_false_eq_true] <;> omega)) ?_
  refine R_aload_n rfl rfl ?_
  refine R_getA rfl rfl (Or.inl rfl) ?_
  refine R_aload_n rfl rfl ?_
  refine R_getI rfl rfl (Or.inl rfl) ?_
  try refine R_top (y := nI _) (by assumption) ?_
  refine R_iald rfl rfl rfl (show _ < 2000 from by omega) ?_
  try refine R_top (y := nI _) (by assumption) ?_
  refine R_istore_n (lv' := [(1, _), (0, _)]) rfl rfl ?_
  refine R_aload_n rfl rfl ?_
  refine R_getA rfl rfl (Or.inl rfl) ?_
  refine R_aload_n rfl rfl ?_
  refine R_getI rfl rfl (Or.inl rfl) ?_
  try refine R_top (y := nI _) (by assumption) ?_
  refine R_iald rfl rfl rfl (show _ < 2000 from by omega) ?_
  try refine R_top (y := nI _) (by assumption) ?_
  refine R_istore_n (lv' := [(2, _), (1, _), (0, _)]) rfl rfl ?_
  refine R_aload_n rfl rfl ?_
  refine R_getI rfl rfl (Or.inl rfl) ?_
  try refine R_top (y := nI _) (by assumption) ?_
  refine R_aload_n rfl rfl ?_
  refine R_getA rfl rfl (Or.inl rfl) ?_
  refine R_aload_n rfl rfl ?_
  refine R_getI rfl rfl (Or.inl rfl) ?_
  try refine R_top (y := nI _) (by assumption) ?_
  refine R_iconst (y := nI 1) rfl (by decide) ?_
  first | refine R_isubN rfl (by omega) ?_ | refine R_isub rfl ?_
  refine R_iald rfl rfl rfl (show _ < 200 from by omega) ?_
  try refine R_top (y := nI _) (by assumption) ?_
  first | refine R_isubN rfl (by omega) ?_ | refine R_isub rfl ?_
  refine R_iload_n rfl rfl ?_
  refine R_aload_n rfl rfl ?_
  refine R_getA rfl rfl (Or.inl rfl) ?_
  refine R_aload_n rfl rfl ?_
  refine R_getI rfl rfl (Or.inl rfl) ?_
  try refine R_top (y := nI _) (by assumption) ?_
  refine R_iald rfl rfl rfl (show _ < 2000 from by omega) ?_
  try refine R_top (y := nI _) (by assumption) ?_
  refine R_stat rfl rfl rfl (Nat.le_of_ble_eq_true rfl) rfl rfl (Nat.le_of_ble_eq_true rfl) (fun _ q => by cases q) (r_wants32) ?_
  try refine R_top (y := nI _) (by assumption) ?_
  refine R_icT (pc' := 97) rfl rfl (by first | assumption | exact icT (by decide) | exact ic_T (by omega) (by omega) (by simp only [icN, not_true_eq_false, not_false_eq_true] <;> omega) | exact ic_T0 (by omega) (by simp only [icN, not_true_eq_false, not_false_eq_true] <;> omega)) ?_
  refine R_iload_n rfl rfl ?_
  refine R_bipush (y := nI 19) rfl (by decide) ?_
  refine R_icT (pc' := 110) rfl rfl (by first | assumption | exact icT (by decide) | exact ic_T (by omega) (by omega) (by simp only [icN, not_true_eq_false, not_false_eq_true] <;> omega) | exact ic_T0 (by omega) (by simp only [icN, not_true_eq_false, not_false_eq_true] <;> omega)) ?_
  refine R_iload_n rfl rfl ?_
  refine R_table (pc' := 312) rfl (by decide) ?_
  refine R_aload_n rfl rfl ?_
  refine R_vq rfl rfl rfl rfl rfl rfl rfl (Nat.le_of_ble_eq_true rfl) hX ?_
  intro v M2 hv
  obtain ⟨y, rfl⟩ := hQ v M2 hv
  exact R_iret rfl rfl trivial hv
theorem r_op24 {d : Nat} {M : Mem} {a w p f q b s : Nat} (ha : M 10 0 = nI a) (hw : M 5 0 = nI w) (haw : a < w) (hw2 : w ≤ 2000) (hB : M 4 a = nI b) (hb2 : b ≤ 15) (hp : M 14 0 = nI p) (hp1 : p ≤ 1000) (hf : M 22 0 = nI f) (hf0 : 0 < f) (hf1 : f ≤ 200) (hq : M 15 (f - 1) = nI q) (hqp : q ≤ p) {lv : Nat → Prop} {rk : Nat → Nat} {k N : Nat} (hs : M 11 0 = nI s) (ho : M 2 a = nI 24) (hen : wnt 24 b ≤ p - q) (hk4 : k < 4) (hk : M 12 (p - 1 - 0) = nI k) (hd : dwn M lv rk) (hc : chn M k (M 13 (p - 1 - 0)) = -1 ∨ ∃ i, lv i ∧ chn M k (M 13 (p - 1 - 0)) = nI i ∧ rk i < N) : CalR (d + 7) j_X9_oneStep [.ref 0] M (some (.int 0)) (welM (pushM (lowM M (p - 1)) (p - 1) (nI 1) (nI (if fnd M (M 3 a) (N + 1) (chn M k (M 13 (p - 1 - 0))) = none then 0 else 1))) (nI (a + 1)) s) := by
  have hen : 1 ≤ p - q := hen
  have hwn : nI (wnt 24 b) = nI 1 := rfl
  cases hq2 : fnd M (M 3 a) (N + 1) (chn M k (M 13 (p - 1 - 0))) with
  | none =>
    have hF : CalR (d + 6) j_X9_find [.ref 0, .int (nI k), .int (M 13 (p - 1 - 0)), .int (M 3 a)] M (some (.int (-1))) M := by
      have := r_find (d := d + 4) (x := M 3 a) hd hk4 hc
      rw [hq2] at this
      exact this
    refine CalR_of (md := md_X9_oneStep) (d := d + 6) rfl (Nat.le_of_ble_eq_true rfl) ?_
    show WR (CalR (d + 6)) t_X9_oneStep 9 (some .int) _ 0 [(0, .ref 0)] [] _
    refine R_aload_n rfl rfl ?_
    refine R_getI rfl rfl (Or.inl rfl) ?_
    try refine R_top (y := nI _) (by assumption) ?_
    refine R_aload_n rfl rfl ?_
    refine R_getI rfl rfl (Or.inl rfl) ?_
    try refine R_top (y := nI _) (by assumption) ?_
    refine R_icF rfl (by first | assumption | exact icF (by decide) | exact ic_F (by omega) (by omega) (by simp only [icN, not_true_eq_false, not_false_eq_true] <;> omega) | exact ic_F0 (by omega) (by simp only [icN, not_true_eq_false, not_false_eq_true] <;> omega)) ?_
    refine R_aload_n rfl rfl ?_
    refine R_getA rfl rfl (Or.inl rfl) ?_
    refine R_aload_n rfl rfl ?_
    refine R_getI rfl rfl (Or.inl rfl) ?_
    try refine R_top (y := nI _) (by assumption) ?_
    refine R_iald rfl rfl rfl (show _ < 2000 from by omega) ?_
    try refine R_top (y := nI _) (by assumption) ?_
    refine R_ifT (pc' := 39) rfl rfl (by first | assumption | exact icT (by decide) | exact ic_T (by omega) (by omega) (by simp only [icN, not_true_eq_false, not_false_eq_true] <;> omega) | exact ic_T0 (by omega) (by simp only [icN, not_true_eq_false, not_false_eq_true] <;> omega)) ?_
    refine R_aload_n rfl rfl ?_
    refine R_getA rfl rfl (Or.inl rfl) ?_
    refine R_aload_n rfl rfl ?_
    refine R_getI rfl rfl (Or.inl rfl) ?_
    try refine R_top (y := nI _) (by assumption) ?_
    refine R_iald rfl rfl rfl (show _ < 2000 from by omega) ?_
    try refine R_top (y := nI _) (by assumption) ?_
    refine R_istore_n (lv' := [(1, _), (0, _)]) rfl rfl ?_
    refine R_aload_n rfl rfl ?_
    refine R_getA rfl rfl (Or.inl rfl) ?_
    refine R_aload_n rfl rfl ?_
    refine R_getI rfl rfl (Or.inl rfl) ?_
    try refine R_top (y := nI _) (by assumption) ?_
    refine R_iald rfl rfl rfl (show _ < 2000 from by omega) ?_
    try refine R_top (y := nI _) (by assumption) ?_
    refine R_istore_n (lv' := [(2, _), (1, _), (0, _)]) rfl rfl ?_
    refine R_aload_n rfl rfl ?_
    refine R_getI rfl rfl (Or.inl rfl) ?_
    try refine R_top (y := nI _) (by assumption) ?_
    refine R_aload_n rfl rfl ?_
    refine R_getA rfl rfl (Or.inl rfl) ?_
    refine R_aload_n rfl rfl ?_
    refine R_getI rfl rfl (Or.inl rfl) ?_
    try refine R_top (y := nI _) (by assumption) ?_
    refine R_iconst (y := nI 1) rfl (by decide) ?_
    first | refine R_isubN rfl (by omega) ?_ | refine R_isub rfl ?_
    refine R_iald rfl rfl rfl (show _ < 200 from by omega) ?_
    try refine R_top (y := nI _) (by assumption) ?_
    first | refine R_isubN rfl (by omega) ?_ | refine R_isub rfl ?_
    refine R_iload_n rfl rfl ?_
    refine R_aload_n rfl rfl ?_
    refine R_getA rfl rfl (Or.inl rfl) ?_
    refine R_aload_n rfl rfl ?_
    refine R_getI rfl rfl (Or.inl rfl) ?_
    try refine R_top (y := nI _) (by assumption) ?_
    refine R_iald rfl rfl rfl (show _ < 2000 from by omega) ?_
    try refine R_top (y := nI _) (by assumption) ?_
    refine R_stat rfl rfl rfl (Nat.le_of_ble_eq_true rfl) rfl rfl (Nat.le_of_ble_eq_true rfl) (fun _ q => by cases q) (r_wants24) ?_
    try refine R_top (y := nI _) (by assumption) ?_
    refine R_icT (pc' := 97) rfl rfl (by first | assumption | exact icT (by decide) | exact ic_T (by omega) (by omega) (by simp only [icN, not_true_eq_false, not_false_eq_true] <;> omega) | exact ic_T0 (by omega) (by simp only [icN, not_true_eq_false, not_false_eq_true] <;> omega)) ?_
    refine R_iload_n rfl rfl ?_
    refine R_bipush (y := nI 19) rfl (by decide) ?_
    refine R_icT (pc' := 110) rfl rfl (by first | assumption | exact icT (by decide) | exact ic_T (by omega) (by omega) (by simp only [icN, not_true_eq_false, not_false_eq_true] <;> omega) | exact ic_T0 (by omega) (by simp only [icN, not_true_eq_false, not_false_eq_true] <;> omega)) ?_
    refine R_iload_n rfl rfl ?_
    refine R_table (pc' := 208) rfl (by decide) ?_
    refine R_aload_n rfl rfl ?_
    refine R_aload_n rfl rfl ?_
    refine R_aload_n rfl rfl ?_
    refine R_iconst (y := nI 0) rfl (by decide) ?_
    refine R_virt rfl rfl rfl rfl rfl rfl rfl (Nat.le_of_ble_eq_true rfl) (fun _ q => by cases q) (r_topKind (by first | assumption | rfl) (by omega) (by omega)) ?_
    try refine R_top (y := nI _) (by assumption) ?_
    refine R_aload_n rfl rfl ?_
    refine R_iconst (y := nI 0) rfl (by decide) ?_
    refine R_virt rfl rfl rfl rfl rfl rfl rfl (Nat.le_of_ble_eq_true rfl) (fun _ q => by cases q) (r_topNumber (by first | assumption | rfl) (by omega) (by omega)) ?_
    try refine R_top (y := nI _) (by assumption) ?_
    refine R_iload_n rfl rfl ?_
    refine R_virt rfl rfl rfl rfl rfl rfl rfl (Nat.le_of_ble_eq_true rfl) (fun _ q => by cases q) (hF) ?_
    try refine R_top (y := nI _) (by assumption) ?_
    refine R_ifT (pc' := 231) rfl rfl (by first | assumption | exact icT (by decide) | exact ic_T (by omega) (by omega) (by simp only [icN, not_true_eq_false, not_false_eq_true] <;> omega) | exact ic_T0 (by omega) (by simp only [icN, not_true_eq_false, not_false_eq_true] <;> omega)) ?_
    refine R_iconst (y := nI 0) rfl (by decide) ?_
    refine R_iconst (y := nI 1) rfl (by decide) ?_
    refine R_virt rfl rfl rfl rfl rfl rfl rfl (Nat.le_of_ble_eq_true rfl) (fun _ q => by cases q) (r_answer hp hp1 (by omega) (by omega) ha hs) ?_
    try refine R_top (y := nI _) (by assumption) ?_
    exact R_iret rfl rfl (by first | trivial | exact Or.inl rfl | exact Or.inr rfl | assumption) ⟨rfl, rfl⟩
  | some q2 =>
    obtain ⟨-, q1, q3, -⟩ := fnd_lt hd (N + 1) _ q2 (by
      rcases hc with h | ⟨i, h1, h2, -⟩
      · exact Or.inl h
      · exact Or.inr ⟨i, h1, h2⟩) hq2
    have hF : CalR (d + 6) j_X9_find [.ref 0, .int (nI k), .int (M 13 (p - 1 - 0)), .int (M 3 a)] M (some (.int (nI (40 * q2.1 + q2.2)))) M := by
      have := r_find (d := d + 4) (x := M 3 a) hd hk4 hc
      rw [hq2] at this
      exact this
    refine CalR_of (md := md_X9_oneStep) (d := d + 6) rfl (Nat.le_of_ble_eq_true rfl) ?_
    show WR (CalR (d + 6)) t_X9_oneStep 9 (some .int) _ 0 [(0, .ref 0)] [] _
    refine R_aload_n rfl rfl ?_
    refine R_getI rfl rfl (Or.inl rfl) ?_
    try refine R_top (y := nI _) (by assumption) ?_
    refine R_aload_n rfl rfl ?_
    refine R_getI rfl rfl (Or.inl rfl) ?_
    try refine R_top (y := nI _) (by assumption) ?_
    refine R_icF rfl (by first | assumption | exact icF (by decide) | exact ic_F (by omega) (by omega) (by simp only [icN, not_true_eq_false, not_false_eq_true] <;> omega) | exact ic_F0 (by omega) (by simp only [icN, not_true_eq_false, not_false_eq_true] <;> omega)) ?_
    refine R_aload_n rfl rfl ?_
    refine R_getA rfl rfl (Or.inl rfl) ?_
    refine R_aload_n rfl rfl ?_
    refine R_getI rfl rfl (Or.inl rfl) ?_
    try refine R_top (y := nI _) (by assumption) ?_
    refine R_iald rfl rfl rfl (show _ < 2000 from by omega) ?_
    try refine R_top (y := nI _) (by assumption) ?_
    refine R_ifT (pc' := 39) rfl rfl (by first | assumption | exact icT (by decide) | exact ic_T (by omega) (by omega) (by simp only [icN, not_true_eq_false, not_false_eq_true] <;> omega) | exact ic_T0 (by omega) (by simp only [icN, not_true_eq_false, not_false_eq_true] <;> omega)) ?_
    refine R_aload_n rfl rfl ?_
    refine R_getA rfl rfl (Or.inl rfl) ?_
    refine R_aload_n rfl rfl ?_
    refine R_getI rfl rfl (Or.inl rfl) ?_
    try refine R_top (y := nI _) (by assumption) ?_
    refine R_iald rfl rfl rfl (show _ < 2000 from by omega) ?_
    try refine R_top (y := nI _) (by assumption) ?_
    refine R_istore_n (lv' := [(1, _), (0, _)]) rfl rfl ?_
    refine R_aload_n rfl rfl ?_
    refine R_getA rfl rfl (Or.inl rfl) ?_
    refine R_aload_n rfl rfl ?_
    refine R_getI rfl rfl (Or.inl rfl) ?_
    try refine R_top (y := nI _) (by assumption) ?_
    refine R_iald rfl rfl rfl (show _ < 2000 from by omega) ?_
    try refine R_top (y := nI _) (by assumption) ?_
    refine R_istore_n (lv' := [(2, _), (1, _), (0, _)]) rfl rfl ?_
    refine R_aload_n rfl rfl ?_
    refine R_getI rfl rfl (Or.inl rfl) ?_
    try refine R_top (y := nI _) (by assumption) ?_
    refine R_aload_n rfl rfl ?_
    refine R_getA rfl rfl (Or.inl rfl) ?_
    refine R_aload_n rfl rfl ?_
    refine R_getI rfl rfl (Or.inl rfl) ?_
    try refine R_top (y := nI _) (by assumption) ?_
    refine R_iconst (y := nI 1) rfl (by decide) ?_
    first | refine R_isubN rfl (by omega) ?_ | refine R_isub rfl ?_
    refine R_iald rfl rfl rfl (show _ < 200 from by omega) ?_
    try refine R_top (y := nI _) (by assumption) ?_
    first | refine R_isubN rfl (by omega) ?_ | refine R_isub rfl ?_
    refine R_iload_n rfl rfl ?_
    refine R_aload_n rfl rfl ?_
    refine R_getA rfl rfl (Or.inl rfl) ?_
    refine R_aload_n rfl rfl ?_
    refine R_getI rfl rfl (Or.inl rfl) ?_
    try refine R_top (y := nI _) (by assumption) ?_
    refine R_iald rfl rfl rfl (show _ < 2000 from by omega) ?_
    try refine R_top (y := nI _) (by assumption) ?_
    refine R_stat rfl rfl rfl (Nat.le_of_ble_eq_true rfl) rfl rfl (Nat.le_of_ble_eq_true rfl) (fun _ q => by cases q) (r_wants24) ?_
    try refine R_top (y := nI _) (by assumption) ?_
    refine R_icT (pc' := 97) rfl rfl (by first | assumption | exact icT (by decide) | exact ic_T (by omega) (by omega) (by simp only [icN, not_true_eq_false, not_false_eq_true] <;> omega) | exact ic_T0 (by omega) (by simp only [icN, not_true_eq_false, not_false_eq_true] <;> omega)) ?_
    refine R_iload_n rfl rfl ?_
    refine R_bipush (y := nI 19) rfl (by decide) ?_
    refine R_icT (pc' := 110) rfl rfl (by first | assumption | exact icT (by decide) | exact ic_T (by omega) (by omega) (by simp only [icN, not_true_eq_false, not_false_eq_true] <;> omega) | exact ic_T0 (by omega) (by simp only [icN, not_true_eq_false, not_false_eq_true] <;> omega)) ?_
    refine R_iload_n rfl rfl ?_
    refine R_table (pc' := 208) rfl (by decide) ?_
    refine R_aload_n rfl rfl ?_
    refine R_aload_n rfl rfl ?_
    refine R_aload_n rfl rfl ?_
    refine R_iconst (y := nI 0) rfl (by decide) ?_
    refine R_virt rfl rfl rfl rfl rfl rfl rfl (Nat.le_of_ble_eq_true rfl) (fun _ q => by cases q) (r_topKind (by first | assumption | rfl) (by omega) (by omega)) ?_
    try refine R_top (y := nI _) (by assumption) ?_
    refine R_aload_n rfl rfl ?_
    refine R_iconst (y := nI 0) rfl (by decide) ?_
    refine R_virt rfl rfl rfl rfl rfl rfl rfl (Nat.le_of_ble_eq_true rfl) (fun _ q => by cases q) (r_topNumber (by first | assumption | rfl) (by omega) (by omega)) ?_
    try refine R_top (y := nI _) (by assumption) ?_
    refine R_iload_n rfl rfl ?_
    refine R_virt rfl rfl rfl rfl rfl rfl rfl (Nat.le_of_ble_eq_true rfl) (fun _ q => by cases q) (hF) ?_
    try refine R_top (y := nI _) (by assumption) ?_
    refine R_ifF rfl (by first | assumption | exact icF (by decide) | exact ic_F (by omega) (by omega) (by simp only [icN, not_true_eq_false, not_false_eq_true] <;> omega) | exact ic_F0 (by omega) (by simp only [icN, not_true_eq_false, not_false_eq_true] <;> omega)) ?_
    refine R_iconst (y := nI 1) rfl (by decide) ?_
    refine R_goto (pc' := 232) rfl rfl ?_
    refine R_iconst (y := nI 1) rfl (by decide) ?_
    refine R_virt rfl rfl rfl rfl rfl rfl rfl (Nat.le_of_ble_eq_true rfl) (fun _ q => by cases q) (r_answer hp hp1 (by omega) (by omega) ha hs) ?_
    try refine R_top (y := nI _) (by assumption) ?_
    exact R_iret rfl rfl (by first | trivial | exact Or.inl rfl | exact Or.inr rfl | assumption) ⟨rfl, rfl⟩
theorem r_op33 {d : Nat} {M : Mem} {a w p f q b s : Nat} (ha : M 10 0 = nI a) (hw : M 5 0 = nI w) (haw : a < w) (hw2 : w ≤ 2000) (hB : M 4 a = nI b) (hb2 : b ≤ 15) (hp : M 14 0 = nI p) (hp1 : p ≤ 1000) (hf : M 22 0 = nI f) (hf0 : 0 < f) (hf1 : f ≤ 200) (hq : M 15 (f - 1) = nI q) (hqp : q ≤ p) (hs : M 11 0 = nI s) (ho : M 2 a = nI 33) : CalR (d + 7) j_X9_oneStep [.ref 0] M (some (.int 0)) (welM M (nI (a + 1)) s) := by
  have hwn : nI (wnt 33 b) = nI 0 := rfl
  refine CalR_of (md := md_X9_oneStep) (d := d + 6) rfl (Nat.le_of_ble_eq_true rfl) ?_
  show WR (CalR (d + 6)) t_X9_oneStep 9 (some .int) _ 0 [(0, .ref 0)] [] _
  refine R_aload_n rfl rfl ?_
  refine R_getI rfl rfl (Or.inl rfl) ?_
  try refine R_top (y := nI _) (by assumption) ?_
  refine R_aload_n rfl rfl ?_
  refine R_getI rfl rfl (Or.inl rfl) ?_
  try refine R_top (y := nI _) (by assumption) ?_
  refine R_icF rfl (by first | assumption | exact icF (by decide) | exact ic_F (by omega) (by omega) (by simp only [icN, not_true_eq_false, not_false_eq_true] <;> omega) | exact ic_F0 (by omega) (by simp only [icN, not_true_eq_false, not_false_eq_true] <;> omega)) ?_
  refine R_aload_n rfl rfl ?_
  refine R_getA rfl rfl (Or.inl rfl) ?_
  refine R_aload_n rfl rfl ?_
  refine R_getI rfl rfl (Or.inl rfl) ?_
  try refine R_top (y := nI _) (by assumption) ?_
  refine R_iald rfl rfl rfl (show _ < 2000 from by omega) ?_
  try refine R_top (y := nI _) (by assumption) ?_
  refine R_ifT (pc' := 39) rfl rfl (by first | assumption | exact icT (by decide) | exact ic_T (by omega) (by omega) (by simp only [icN, not_true_eq_false, not_false_eq_true] <;> omega) | exact ic_T0 (by omega) (by simp only [icN, not_true_eq_false, not_false_eq_true] <;> omega)) ?_
  refine R_aload_n rfl rfl ?_
  refine R_getA rfl rfl (Or.inl rfl) ?_
  refine R_aload_n rfl rfl ?_
  refine R_getI rfl rfl (Or.inl rfl) ?_
  try refine R_top (y := nI _) (by assumption) ?_
  refine R_iald rfl rfl rfl (show _ < 2000 from by omega) ?_
  try refine R_top (y := nI _) (by assumption) ?_
  refine R_istore_n (lv' := [(1, _), (0, _)]) rfl rfl ?_
  refine R_aload_n rfl rfl ?_
  refine R_getA rfl rfl (Or.inl rfl) ?_
  refine R_aload_n rfl rfl ?_
  refine R_getI rfl rfl (Or.inl rfl) ?_
  try refine R_top (y := nI _) (by assumption) ?_
  refine R_iald rfl rfl rfl (show _ < 2000 from by omega) ?_
  try refine R_top (y := nI _) (by assumption) ?_
  refine R_istore_n (lv' := [(2, _), (1, _), (0, _)]) rfl rfl ?_
  refine R_aload_n rfl rfl ?_
  refine R_getI rfl rfl (Or.inl rfl) ?_
  try refine R_top (y := nI _) (by assumption) ?_
  refine R_aload_n rfl rfl ?_
  refine R_getA rfl rfl (Or.inl rfl) ?_
  refine R_aload_n rfl rfl ?_
  refine R_getI rfl rfl (Or.inl rfl) ?_
  try refine R_top (y := nI _) (by assumption) ?_
  refine R_iconst (y := nI 1) rfl (by decide) ?_
  first | refine R_isubN rfl (by omega) ?_ | refine R_isub rfl ?_
  refine R_iald rfl rfl rfl (show _ < 200 from by omega) ?_
  try refine R_top (y := nI _) (by assumption) ?_
  first | refine R_isubN rfl (by omega) ?_ | refine R_isub rfl ?_
  refine R_iload_n rfl rfl ?_
  refine R_aload_n rfl rfl ?_
  refine R_getA rfl rfl (Or.inl rfl) ?_
  refine R_aload_n rfl rfl ?_
  refine R_getI rfl rfl (Or.inl rfl) ?_
  try refine R_top (y := nI _) (by assumption) ?_
  refine R_iald rfl rfl rfl (show _ < 2000 from by omega) ?_
  try refine R_top (y := nI _) (by assumption) ?_
  refine R_stat rfl rfl rfl (Nat.le_of_ble_eq_true rfl) rfl rfl (Nat.le_of_ble_eq_true rfl) (fun _ q => by cases q) (r_wants33) ?_
  try refine R_top (y := nI _) (by assumption) ?_
  refine R_icT (pc' := 97) rfl rfl (by first | assumption | exact icT (by decide) | exact ic_T (by omega) (by omega) (by simp only [icN, not_true_eq_false, not_false_eq_true] <;> omega) | exact ic_T0 (by omega) (by simp only [icN, not_true_eq_false, not_false_eq_true] <;> omega)) ?_
  refine R_iload_n rfl rfl ?_
  refine R_bipush (y := nI 19) rfl (by decide) ?_
  refine R_icT (pc' := 110) rfl rfl (by first | assumption | exact icT (by decide) | exact ic_T (by omega) (by omega) (by simp only [icN, not_true_eq_false, not_false_eq_true] <;> omega) | exact ic_T0 (by omega) (by simp only [icN, not_true_eq_false, not_false_eq_true] <;> omega)) ?_
  refine R_iload_n rfl rfl ?_
  refine R_table (pc' := 317) rfl (by decide) ?_
  refine R_aload_n rfl rfl ?_
  refine R_aload_n rfl rfl ?_
  refine R_getI rfl rfl (Or.inl rfl) ?_
  try refine R_top (y := nI _) (by assumption) ?_
  refine R_iconst (y := nI 1) rfl (by decide) ?_
  first | refine R_iaddN rfl ?_ | refine R_iadd rfl ?_
  refine R_virt rfl rfl rfl rfl rfl rfl rfl (Nat.le_of_ble_eq_true rfl) (fun _ q => by cases q) (r_well (by assumption)) ?_
  try refine R_top (y := nI _) (by assumption) ?_
  exact R_iret rfl rfl (by first | trivial | exact Or.inl rfl | exact Or.inr rfl | assumption) ⟨rfl, rfl⟩
theorem r_op34 {d : Nat} {M : Mem} {a w p f q b s : Nat} (ha : M 10 0 = nI a) (hw : M 5 0 = nI w) (haw : a < w) (hw2 : w ≤ 2000) (hB : M 4 a = nI b) (hb2 : b ≤ 15) (hp : M 14 0 = nI p) (hp1 : p ≤ 1000) (hf : M 22 0 = nI f) (hf0 : 0 < f) (hf1 : f ≤ 200) (hq : M 15 (f - 1) = nI q) (hqp : q ≤ p) (hs : M 11 0 = nI s) (ho : M 2 a = nI 34) : CalR (d + 7) j_X9_oneStep [.ref 0] M (some (.int 0)) (welM M (nI (a + 1)) s) := by
  have hwn : nI (wnt 34 b) = nI 0 := rfl
  refine CalR_of (md := md_X9_oneStep) (d := d + 6) rfl (Nat.le_of_ble_eq_true rfl) ?_
  show WR (CalR (d + 6)) t_X9_oneStep 9 (some .int) _ 0 [(0, .ref 0)] [] _
  refine R_aload_n rfl rfl ?_
  refine R_getI rfl rfl (Or.inl rfl) ?_
  try refine R_top (y := nI _) (by assumption) ?_
  refine R_aload_n rfl rfl ?_
  refine R_getI rfl rfl (Or.inl rfl) ?_
  try refine R_top (y := nI _) (by assumption) ?_
  refine R_icF rfl (by first | assumption | exact icF (by decide) | exact ic_F (by omega) (by omega) (by simp only [icN, not_true_eq_false, not_false_eq_true] <;> omega) | exact ic_F0 (by omega) (by simp only [icN, not_true_eq_false, not_false_eq_true] <;> omega)) ?_
  refine R_aload_n rfl rfl ?_
  refine R_getA rfl rfl (Or.inl rfl) ?_
  refine R_aload_n rfl rfl ?_
  refine R_getI rfl rfl (Or.inl rfl) ?_
  try refine R_top (y := nI _) (by assumption) ?_
  refine R_iald rfl rfl rfl (show _ < 2000 from by omega) ?_
  try refine R_top (y := nI _) (by assumption) ?_
  refine R_ifT (pc' := 39) rfl rfl (by first | assumption | exact icT (by decide) | exact ic_T (by omega) (by omega) (by simp only [icN, not_true_eq_false, not_false_eq_true] <;> omega) | exact ic_T0 (by omega) (by simp only [icN, not_true_eq_false, not_false_eq_true] <;> omega)) ?_
  refine R_aload_n rfl rfl ?_
  refine R_getA rfl rfl (Or.inl rfl) ?_
  refine R_aload_n rfl rfl ?_
  refine R_getI rfl rfl (Or.inl rfl) ?_
  try refine R_top (y := nI _) (by assumption) ?_
  refine R_iald rfl rfl rfl (show _ < 2000 from by omega) ?_
  try refine R_top (y := nI _) (by assumption) ?_
  refine R_istore_n (lv' := [(1, _), (0, _)]) rfl rfl ?_
  refine R_aload_n rfl rfl ?_
  refine R_getA rfl rfl (Or.inl rfl) ?_
  refine R_aload_n rfl rfl ?_
  refine R_getI rfl rfl (Or.inl rfl) ?_
  try refine R_top (y := nI _) (by assumption) ?_
  refine R_iald rfl rfl rfl (show _ < 2000 from by omega) ?_
  try refine R_top (y := nI _) (by assumption) ?_
  refine R_istore_n (lv' := [(2, _), (1, _), (0, _)]) rfl rfl ?_
  refine R_aload_n rfl rfl ?_
  refine R_getI rfl rfl (Or.inl rfl) ?_
  try refine R_top (y := nI _) (by assumption) ?_
  refine R_aload_n rfl rfl ?_
  refine R_getA rfl rfl (Or.inl rfl) ?_
  refine R_aload_n rfl rfl ?_
  refine R_getI rfl rfl (Or.inl rfl) ?_
  try refine R_top (y := nI _) (by assumption) ?_
  refine R_iconst (y := nI 1) rfl (by decide) ?_
  first | refine R_isubN rfl (by omega) ?_ | refine R_isub rfl ?_
  refine R_iald rfl rfl rfl (show _ < 200 from by omega) ?_
  try refine R_top (y := nI _) (by assumption) ?_
  first | refine R_isubN rfl (by omega) ?_ | refine R_isub rfl ?_
  refine R_iload_n rfl rfl ?_
  refine R_aload_n rfl rfl ?_
  refine R_getA rfl rfl (Or.inl rfl) ?_
  refine R_aload_n rfl rfl ?_
  refine R_getI rfl rfl (Or.inl rfl) ?_
  try refine R_top (y := nI _) (by assumption) ?_
  refine R_iald rfl rfl rfl (show _ < 2000 from by omega) ?_
  try refine R_top (y := nI _) (by assumption) ?_
  refine R_stat rfl rfl rfl (Nat.le_of_ble_eq_true rfl) rfl rfl (Nat.le_of_ble_eq_true rfl) (fun _ q => by cases q) (r_wants34) ?_
  try refine R_top (y := nI _) (by assumption) ?_
  refine R_icT (pc' := 97) rfl rfl (by first | assumption | exact icT (by decide) | exact ic_T (by omega) (by omega) (by simp only [icN, not_true_eq_false, not_false_eq_true] <;> omega) | exact ic_T0 (by omega) (by simp only [icN, not_true_eq_false, not_false_eq_true] <;> omega)) ?_
  refine R_iload_n rfl rfl ?_
  refine R_bipush (y := nI 19) rfl (by decide) ?_
  refine R_icT (pc' := 110) rfl rfl (by first | assumption | exact icT (by decide) | exact ic_T (by omega) (by omega) (by simp only [icN, not_true_eq_false, not_false_eq_true] <;> omega) | exact ic_T0 (by omega) (by simp only [icN, not_true_eq_false, not_false_eq_true] <;> omega)) ?_
  refine R_iload_n rfl rfl ?_
  refine R_table (pc' := 317) rfl (by decide) ?_
  refine R_aload_n rfl rfl ?_
  refine R_aload_n rfl rfl ?_
  refine R_getI rfl rfl (Or.inl rfl) ?_
  try refine R_top (y := nI _) (by assumption) ?_
  refine R_iconst (y := nI 1) rfl (by decide) ?_
  first | refine R_iaddN rfl ?_ | refine R_iadd rfl ?_
  refine R_virt rfl rfl rfl rfl rfl rfl rfl (Nat.le_of_ble_eq_true rfl) (fun _ q => by cases q) (r_well (by assumption)) ?_
  try refine R_top (y := nI _) (by assumption) ?_
  exact R_iret rfl rfl (by first | trivial | exact Or.inl rfl | exact Or.inr rfl | assumption) ⟨rfl, rfl⟩
theorem r_s1 {d : Nat} {M M' : Mem} {v x : Int32} (h : CalR (d + 2) j_X9_put [.ref 0, .int (nI 1), .int x] M (some (.int v)) M') : CalR (d + 3) j_X9_simple [.ref 0, .int (nI 1), .int x] M (some (.int v)) M' := by
  refine CalR_of (md := md_X9_simple) (d := d + 2) rfl (Nat.le_of_ble_eq_true rfl) ?_
  show WR (CalR (d + 2)) t_X9_simple 9 (some .int) _ 0 [(0, .ref 0), (1, .int (nI 1)), (2, .int x)] [] _
  refine R_iload_n rfl rfl ?_
  refine R_table (pc' := 88) rfl (by decide) ?_
  refine R_aload_n rfl rfl ?_
  refine R_iconst (y := nI 1) rfl (by decide) ?_
  refine R_iload_n rfl rfl ?_
  refine R_virt rfl rfl rfl rfl rfl rfl rfl (Nat.le_of_ble_eq_true rfl) (fun _ q => by cases q) (h) ?_
  try refine R_top (y := nI _) (by assumption) ?_
  exact R_iret rfl rfl (by first | trivial | exact Or.inl rfl | exact Or.inr rfl | assumption) ⟨rfl, rfl⟩
theorem r_s2 {d : Nat} {M M' : Mem} {v x : Int32} (h : CalR (d + 2) j_X9_put [.ref 0, .int (nI 0), .int (nI 0)] M (some (.int v)) M') : CalR (d + 3) j_X9_simple [.ref 0, .int (nI 2), .int x] M (some (.int v)) M' := by
  refine CalR_of (md := md_X9_simple) (d := d + 2) rfl (Nat.le_of_ble_eq_true rfl) ?_
  show WR (CalR (d + 2)) t_X9_simple 9 (some .int) _ 0 [(0, .ref 0), (1, .int (nI 2)), (2, .int x)] [] _
  refine R_iload_n rfl rfl ?_
  refine R_table (pc' := 95) rfl (by decide) ?_
  refine R_aload_n rfl rfl ?_
  refine R_iconst (y := nI 0) rfl (by decide) ?_
  refine R_iconst (y := nI 0) rfl (by decide) ?_
  refine R_virt rfl rfl rfl rfl rfl rfl rfl (Nat.le_of_ble_eq_true rfl) (fun _ q => by cases q) (h) ?_
  try refine R_top (y := nI _) (by assumption) ?_
  exact R_iret rfl rfl (by first | trivial | exact Or.inl rfl | exact Or.inr rfl | assumption) ⟨rfl, rfl⟩
theorem r_s3 {d : Nat} {M : Mem} {x : Int32} {p a s : Nat} (hp : M 14 0 = nI p) (hp1 : p ≤ 1000) (hp0 : 0 < p) (ha : M 10 0 = nI a) (hs : M 11 0 = nI s) : CalR (d + 3) j_X9_simple [.ref 0, .int (nI 3), .int x] M (some (.int 0)) (welM (lowM M (p - 1)) (nI (a + 1)) s) := by
  refine CalR_of (md := md_X9_simple) (d := d + 2) rfl (Nat.le_of_ble_eq_true rfl) ?_
  show WR (CalR (d + 2)) t_X9_simple 9 (some .int) _ 0 [(0, .ref 0), (1, .int (nI 3)), (2, .int x)] [] _
  refine R_iload_n rfl rfl ?_
  refine R_table (pc' := 102) rfl (by decide) ?_
  refine R_aload_n rfl rfl ?_
  refine R_dup rfl ?_
  refine R_getI rfl rfl (Or.inl rfl) ?_
  try refine R_top (y := nI _) (by assumption) ?_
  refine R_iconst (y := nI 1) rfl (by decide) ?_
  first | refine R_isubN rfl (by omega) ?_ | refine R_isub rfl ?_
  refine R_put rfl rfl rfl ?_
  refine R_aload_n rfl rfl ?_
  refine R_aload_n rfl rfl ?_
  refine R_getI rfl rfl (Or.inl rfl) ?_
  try refine R_top (y := nI _) (by assumption) ?_
  refine R_iconst (y := nI 1) rfl (by decide) ?_
  first | refine R_iaddN rfl ?_ | refine R_iadd rfl ?_
  refine R_virt rfl rfl rfl rfl rfl rfl rfl (Nat.le_of_ble_eq_true rfl) (fun _ q => by cases q) (r_well (by assumption)) ?_
  try refine R_top (y := nI _) (by assumption) ?_
  exact R_iret rfl rfl (by first | trivial | exact Or.inl rfl | exact Or.inr rfl | assumption) ⟨rfl, rfl⟩
theorem r_s4 {d : Nat} {M M' : Mem} {v x : Int32} {p : Nat} (hp : M 14 0 = nI p) (hp1 : p ≤ 1000) (hp0 : 0 < p) (h : CalR (d + 2) j_X9_put [.ref 0, .int (M 12 (p - 1 - 0)), .int (M 13 (p - 1 - 0))] M (some (.int v)) M') : CalR (d + 3) j_X9_simple [.ref 0, .int (nI 4), .int x] M (some (.int v)) M' := by
  refine CalR_of (md := md_X9_simple) (d := d + 2) rfl (Nat.le_of_ble_eq_true rfl) ?_
  show WR (CalR (d + 2)) t_X9_simple 9 (some .int) _ 0 [(0, .ref 0), (1, .int (nI 4)), (2, .int x)] [] _
  refine R_iload_n rfl rfl ?_
  refine R_table (pc' := 123) rfl (by decide) ?_
  refine R_aload_n rfl rfl ?_
  refine R_aload_n rfl rfl ?_
  refine R_iconst (y := nI 0) rfl (by decide) ?_
  refine R_virt rfl rfl rfl rfl rfl rfl rfl (Nat.le_of_ble_eq_true rfl) (fun _ q => by cases q) (r_topKind (by first | assumption | rfl) (by omega) (by omega)) ?_
  try refine R_top (y := nI _) (by assumption) ?_
  refine R_aload_n rfl rfl ?_
  refine R_iconst (y := nI 0) rfl (by decide) ?_
  refine R_virt rfl rfl rfl rfl rfl rfl rfl (Nat.le_of_ble_eq_true rfl) (fun _ q => by cases q) (r_topNumber (by first | assumption | rfl) (by omega) (by omega)) ?_
  try refine R_top (y := nI _) (by assumption) ?_
  refine R_virt rfl rfl rfl rfl rfl rfl rfl (Nat.le_of_ble_eq_true rfl) (fun _ q => by cases q) (h) ?_
  try refine R_top (y := nI _) (by assumption) ?_
  exact R_iret rfl rfl (by first | trivial | exact Or.inl rfl | exact Or.inr rfl | assumption) ⟨rfl, rfl⟩
theorem r_s5 {d : Nat} {M : Mem} {x : Int32} {p a s : Nat} (hp : M 14 0 = nI p) (hp1 : p ≤ 1000) (hp0 : 1 < p) (ha : M 10 0 = nI a) (hs : M 11 0 = nI s) : CalR (d + 3) j_X9_simple [.ref 0, .int (nI 5), .int x] M (some (.int 0)) (welM (up2 (up2 (up2 (up2 M 12 (p - 1) (M 12 (p - 2))) 13 (p - 1) (M 13 (p - 2))) 12 (p - 2) (M 12 (p - 1))) 13 (p - 2) (M 13 (p - 1))) (nI (a + 1)) s) := by
  refine CalR_of (md := md_X9_simple) (d := d + 2) rfl (Nat.le_of_ble_eq_true rfl) ?_
  show WR (CalR (d + 2)) t_X9_simple 9 (some .int) _ 0 [(0, .ref 0), (1, .int (nI 5)), (2, .int x)] [] _
  refine R_iload_n rfl rfl ?_
  refine R_table (pc' := 138) rfl (by decide) ?_
  refine R_aload_n rfl rfl ?_
  refine R_virt rfl rfl rfl rfl rfl rfl rfl (Nat.le_of_ble_eq_true rfl) (fun _ q => by cases q) (r_swap hp hp1 hp0 ha hs) ?_
  try refine R_top (y := nI _) (by assumption) ?_
  exact R_iret rfl rfl (by first | trivial | exact Or.inl rfl | exact Or.inr rfl | assumption) ⟨rfl, rfl⟩
theorem r_s12 {d : Nat} {M : Mem} {x : Int32} {p a s : Nat} (hp : M 14 0 = nI p) (hp1 : p ≤ 1000) (hp0 : 1 < p) (ha : M 10 0 = nI a) (hs : M 11 0 = nI s) : CalR (d + 3) j_X9_simple [.ref 0, .int (nI 12), .int x] M (some (.int 0)) (welM (pushM (lowM M (p - 2)) (p - 2) (nI 1) (nI (if M 12 (p - 1 - 0) = M 12 (p - 1 - 1) ∧ M 13 (p - 1 - 0) = M 13 (p - 1 - 1) then 1 else 0))) (nI (a + 1)) s) := by
  by_cases h1 : M 12 (p - 1 - 0) = M 12 (p - 1 - 1)
  · by_cases h2 : M 13 (p - 1 - 0) = M 13 (p - 1 - 1)
    · rw [if_pos ⟨h1, h2⟩]
      refine CalR_of (md := md_X9_simple) (d := d + 2) rfl (Nat.le_of_ble_eq_true rfl) ?_
      show WR (CalR (d + 2)) t_X9_simple 9 (some .int) _ 0 [(0, .ref 0), (1, .int (nI 12)), (2, .int x)] [] _
      refine R_iload_n rfl rfl ?_
      refine R_table (pc' := 143) rfl (by decide) ?_
      refine R_aload_n rfl rfl ?_
      refine R_aload_n rfl rfl ?_
      refine R_iconst (y := nI 0) rfl (by decide) ?_
      refine R_virt rfl rfl rfl rfl rfl rfl rfl (Nat.le_of_ble_eq_true rfl) (fun _ q => by cases q) (r_topKind (by first | assumption | rfl) (by omega) (by omega)) ?_
      try refine R_top (y := nI _) (by assumption) ?_
      refine R_aload_n rfl rfl ?_
      refine R_iconst (y := nI 1) rfl (by decide) ?_
      refine R_virt rfl rfl rfl rfl rfl rfl rfl (Nat.le_of_ble_eq_true rfl) (fun _ q => by cases q) (r_topKind (by first | assumption | rfl) (by omega) (by omega)) ?_
      try refine R_top (y := nI _) (by assumption) ?_
      refine R_icF rfl (fun q => q h1) ?_
      refine R_aload_n rfl rfl ?_
      refine R_iconst (y := nI 0) rfl (by decide) ?_
      refine R_virt rfl rfl rfl rfl rfl rfl rfl (Nat.le_of_ble_eq_true rfl) (fun _ q => by cases q) (r_topNumber (by first | assumption | rfl) (by omega) (by omega)) ?_
      try refine R_top (y := nI _) (by assumption) ?_
      refine R_aload_n rfl rfl ?_
      refine R_iconst (y := nI 1) rfl (by decide) ?_
      refine R_virt rfl rfl rfl rfl rfl rfl rfl (Nat.le_of_ble_eq_true rfl) (fun _ q => by cases q) (r_topNumber (by first | assumption | rfl) (by omega) (by omega)) ?_
      try refine R_top (y := nI _) (by assumption) ?_
      refine R_icF rfl (fun q => q h2) ?_
      refine R_iconst (y := nI 1) rfl (by decide) ?_
      refine R_goto (pc' := 175) rfl rfl ?_
      refine R_iconst (y := nI 2) rfl (by decide) ?_
      refine R_virt rfl rfl rfl rfl rfl rfl rfl (Nat.le_of_ble_eq_true rfl) (fun _ q => by cases q) (r_answer hp hp1 (by omega) (by omega) ha hs) ?_
      try refine R_top (y := nI _) (by assumption) ?_
      exact R_iret rfl rfl (by first | trivial | exact Or.inl rfl | exact Or.inr rfl | assumption) ⟨rfl, rfl⟩
    · rw [if_neg (fun q => h2 q.2)]
      refine CalR_of (md := md_X9_simple) (d := d + 2) rfl (Nat.le_of_ble_eq_true rfl) ?_
      show WR (CalR (d + 2)) t_X9_simple 9 (some .int) _ 0 [(0, .ref 0), (1, .int (nI 12)), (2, .int x)] [] _
      refine R_iload_n rfl rfl ?_
      refine R_table (pc' := 143) rfl (by decide) ?_
      refine R_aload_n rfl rfl ?_
      refine R_aload_n rfl rfl ?_
      refine R_iconst (y := nI 0) rfl (by decide) ?_
      refine R_virt rfl rfl rfl rfl rfl rfl rfl (Nat.le_of_ble_eq_true rfl) (fun _ q => by cases q) (r_topKind (by first | assumption | rfl) (by omega) (by omega)) ?_
      try refine R_top (y := nI _) (by assumption) ?_
      refine R_aload_n rfl rfl ?_
      refine R_iconst (y := nI 1) rfl (by decide) ?_
      refine R_virt rfl rfl rfl rfl rfl rfl rfl (Nat.le_of_ble_eq_true rfl) (fun _ q => by cases q) (r_topKind (by first | assumption | rfl) (by omega) (by omega)) ?_
      try refine R_top (y := nI _) (by assumption) ?_
      refine R_icF rfl (fun q => q h1) ?_
      refine R_aload_n rfl rfl ?_
      refine R_iconst (y := nI 0) rfl (by decide) ?_
      refine R_virt rfl rfl rfl rfl rfl rfl rfl (Nat.le_of_ble_eq_true rfl) (fun _ q => by cases q) (r_topNumber (by first | assumption | rfl) (by omega) (by omega)) ?_
      try refine R_top (y := nI _) (by assumption) ?_
      refine R_aload_n rfl rfl ?_
      refine R_iconst (y := nI 1) rfl (by decide) ?_
      refine R_virt rfl rfl rfl rfl rfl rfl rfl (Nat.le_of_ble_eq_true rfl) (fun _ q => by cases q) (r_topNumber (by first | assumption | rfl) (by omega) (by omega)) ?_
      try refine R_top (y := nI _) (by assumption) ?_
      refine R_icT (pc' := 174) rfl rfl (h2) ?_
      refine R_iconst (y := nI 0) rfl (by decide) ?_
      refine R_iconst (y := nI 2) rfl (by decide) ?_
      refine R_virt rfl rfl rfl rfl rfl rfl rfl (Nat.le_of_ble_eq_true rfl) (fun _ q => by cases q) (r_answer hp hp1 (by omega) (by omega) ha hs) ?_
      try refine R_top (y := nI _) (by assumption) ?_
      exact R_iret rfl rfl (by first | trivial | exact Or.inl rfl | exact Or.inr rfl | assumption) ⟨rfl, rfl⟩
  · rw [if_neg (fun q => h1 q.1)]
    refine CalR_of (md := md_X9_simple) (d := d + 2) rfl (Nat.le_of_ble_eq_true rfl) ?_
    show WR (CalR (d + 2)) t_X9_simple 9 (some .int) _ 0 [(0, .ref 0), (1, .int (nI 12)), (2, .int x)] [] _
    refine R_iload_n rfl rfl ?_
    refine R_table (pc' := 143) rfl (by decide) ?_
    refine R_aload_n rfl rfl ?_
    refine R_aload_n rfl rfl ?_
    refine R_iconst (y := nI 0) rfl (by decide) ?_
    refine R_virt rfl rfl rfl rfl rfl rfl rfl (Nat.le_of_ble_eq_true rfl) (fun _ q => by cases q) (r_topKind (by first | assumption | rfl) (by omega) (by omega)) ?_
    try refine R_top (y := nI _) (by assumption) ?_
    refine R_aload_n rfl rfl ?_
    refine R_iconst (y := nI 1) rfl (by decide) ?_
    refine R_virt rfl rfl rfl rfl rfl rfl rfl (Nat.le_of_ble_eq_true rfl) (fun _ q => by cases q) (r_topKind (by first | assumption | rfl) (by omega) (by omega)) ?_
    try refine R_top (y := nI _) (by assumption) ?_
    refine R_icT (pc' := 174) rfl rfl (h1) ?_
    refine R_iconst (y := nI 0) rfl (by decide) ?_
    refine R_iconst (y := nI 2) rfl (by decide) ?_
    refine R_virt rfl rfl rfl rfl rfl rfl rfl (Nat.le_of_ble_eq_true rfl) (fun _ q => by cases q) (r_answer hp hp1 (by omega) (by omega) ha hs) ?_
    try refine R_top (y := nI _) (by assumption) ?_
    exact R_iret rfl rfl (by first | trivial | exact Or.inl rfl | exact Or.inr rfl | assumption) ⟨rfl, rfl⟩
theorem r_s13 {d : Nat} {M : Mem} {l s : Nat} (hl : l < 200) (hs : M 11 0 = nI s) : CalR (d + 3) j_X9_simple [.ref 0, .int (nI 13), .int (nI l)] M (some (.int 0)) (welM M (M 6 l) s) := by
  refine CalR_of (md := md_X9_simple) (d := d + 2) rfl (Nat.le_of_ble_eq_true rfl) ?_
  show WR (CalR (d + 2)) t_X9_simple 9 (some .int) _ 0 [(0, .ref 0), (1, .int (nI 13)), (2, .int (nI l))] [] _
  refine R_iload_n rfl rfl ?_
  refine R_table (pc' := 180) rfl (by decide) ?_
  refine R_aload_n rfl rfl ?_
  refine R_aload_n rfl rfl ?_
  refine R_getA rfl rfl (Or.inl rfl) ?_
  refine R_iload_n rfl rfl ?_
  refine R_iald rfl rfl rfl (show _ < 200 from by omega) ?_
  refine R_virt rfl rfl rfl rfl rfl rfl rfl (Nat.le_of_ble_eq_true rfl) (fun _ q => by cases q) (r_well (by assumption)) ?_
  try refine R_top (y := nI _) (by assumption) ?_
  exact R_iret rfl rfl (by first | trivial | exact Or.inl rfl | exact Or.inr rfl | assumption) ⟨rfl, rfl⟩
theorem r_s14 {d : Nat} {M M' : Mem} {v x : Int32} (h : CalR (d + 5) j_X9_unless [.ref 0, .int x] M (some (.int v)) M') : CalR (d + 6) j_X9_simple [.ref 0, .int (nI 14), .int x] M (some (.int v)) M' := by
  refine CalR_of (md := md_X9_simple) (d := d + 5) rfl (Nat.le_of_ble_eq_true rfl) ?_
  show WR (CalR (d + 5)) t_X9_simple 9 (some .int) _ 0 [(0, .ref 0), (1, .int (nI 14)), (2, .int x)] [] _
  refine R_iload_n rfl rfl ?_
  refine R_table (pc' := 191) rfl (by decide) ?_
  refine R_aload_n rfl rfl ?_
  refine R_iload_n rfl rfl ?_
  refine R_virt rfl rfl rfl rfl rfl rfl rfl (Nat.le_of_ble_eq_true rfl) (fun _ q => by cases q) (h) ?_
  try refine R_top (y := nI _) (by assumption) ?_
  exact R_iret rfl rfl (by first | trivial | exact Or.inl rfl | exact Or.inr rfl | assumption) ⟨rfl, rfl⟩
theorem r_s15 {d : Nat} {M M' : Mem} {v x : Int32} (h : CalR (d + 5) j_X9_local [.ref 0, .int x] M (some (.int v)) M') : CalR (d + 6) j_X9_simple [.ref 0, .int (nI 15), .int x] M (some (.int v)) M' := by
  refine CalR_of (md := md_X9_simple) (d := d + 5) rfl (Nat.le_of_ble_eq_true rfl) ?_
  show WR (CalR (d + 5)) t_X9_simple 9 (some .int) _ 0 [(0, .ref 0), (1, .int (nI 15)), (2, .int x)] [] _
  refine R_iload_n rfl rfl ?_
  refine R_table (pc' := 197) rfl (by decide) ?_
  refine R_aload_n rfl rfl ?_
  refine R_iload_n rfl rfl ?_
  refine R_virt rfl rfl rfl rfl rfl rfl rfl (Nat.le_of_ble_eq_true rfl) (fun _ q => by cases q) (h) ?_
  try refine R_top (y := nI _) (by assumption) ?_
  exact R_iret rfl rfl (by first | trivial | exact Or.inl rfl | exact Or.inr rfl | assumption) ⟨rfl, rfl⟩
theorem r_s16 {d : Nat} {M M' : Mem} {v x : Int32} (h : CalR (d + 5) j_X9_store [.ref 0, .int x] M (some (.int v)) M') : CalR (d + 6) j_X9_simple [.ref 0, .int (nI 16), .int x] M (some (.int v)) M' := by
  refine CalR_of (md := md_X9_simple) (d := d + 5) rfl (Nat.le_of_ble_eq_true rfl) ?_
  show WR (CalR (d + 5)) t_X9_simple 9 (some .int) _ 0 [(0, .ref 0), (1, .int (nI 16)), (2, .int x)] [] _
  refine R_iload_n rfl rfl ?_
  refine R_table (pc' := 203) rfl (by decide) ?_
  refine R_aload_n rfl rfl ?_
  refine R_iload_n rfl rfl ?_
  refine R_virt rfl rfl rfl rfl rfl rfl rfl (Nat.le_of_ble_eq_true rfl) (fun _ q => by cases q) (h) ?_
  try refine R_top (y := nI _) (by assumption) ?_
  exact R_iret rfl rfl (by first | trivial | exact Or.inl rfl | exact Or.inr rfl | assumption) ⟨rfl, rfl⟩
theorem r_s18 {d : Nat} {M M' : Mem} {v x : Int32} (h : CalR (d + 5) j_X9_keep [.ref 0, .int x] M (some (.int v)) M') : CalR (d + 6) j_X9_simple [.ref 0, .int (nI 18), .int x] M (some (.int v)) M' := by
  refine CalR_of (md := md_X9_simple) (d := d + 5) rfl (Nat.le_of_ble_eq_true rfl) ?_
  show WR (CalR (d + 5)) t_X9_simple 9 (some .int) _ 0 [(0, .ref 0), (1, .int (nI 18)), (2, .int x)] [] _
  refine R_iload_n rfl rfl ?_
  refine R_table (pc' := 226) rfl (by decide) ?_
  refine R_aload_n rfl rfl ?_
  refine R_iload_n rfl rfl ?_
  refine R_virt rfl rfl rfl rfl rfl rfl rfl (Nat.le_of_ble_eq_true rfl) (fun _ q => by cases q) (h) ?_
  try refine R_top (y := nI _) (by assumption) ?_
  exact R_iret rfl rfl (by first | trivial | exact Or.inl rfl | exact Or.inr rfl | assumption) ⟨rfl, rfl⟩
theorem r_s17 {d : Nat} {M M' : Mem} {v : Int32} {l : Nat} (hl : l < 16) (h : CalR (d + 2) j_X9_put [.ref 0, .int (M 23 l), .int (M 24 l)] M (some (.int v)) M') : CalR (d + 3) j_X9_simple [.ref 0, .int (nI 17), .int (nI l)] M (some (.int v)) M' := by
  refine CalR_of (md := md_X9_simple) (d := d + 2) rfl (Nat.le_of_ble_eq_true rfl) ?_
  show WR (CalR (d + 2)) t_X9_simple 9 (some .int) _ 0 [(0, .ref 0), (1, .int (nI 17)), (2, .int (nI l))] [] _
  refine R_iload_n rfl rfl ?_
  refine R_table (pc' := 209) rfl (by decide) ?_
  refine R_aload_n rfl rfl ?_
  refine R_aload_n rfl rfl ?_
  refine R_getA rfl rfl (Or.inl rfl) ?_
  refine R_iload_n rfl rfl ?_
  refine R_iald rfl rfl rfl (show _ < 16 from by omega) ?_
  try refine R_top (y := nI _) (by assumption) ?_
  refine R_aload_n rfl rfl ?_
  refine R_getA rfl rfl (Or.inl rfl) ?_
  refine R_iload_n rfl rfl ?_
  refine R_iald rfl rfl rfl (show _ < 16 from by omega) ?_
  try refine R_top (y := nI _) (by assumption) ?_
  refine R_virt rfl rfl rfl rfl rfl rfl rfl (Nat.le_of_ble_eq_true rfl) (fun _ q => by cases q) (h) ?_
  try refine R_top (y := nI _) (by assumption) ?_
  exact R_iret rfl rfl (by first | trivial | exact Or.inl rfl | exact Or.inr rfl | assumption) ⟨rfl, rfl⟩
theorem r_s6 {d : Nat} {M M' : Mem} {v x : Int32} (h : CalR (d + 2) j_X9_reckon [.ref 0, .int (nI 6)] M (some (.int v)) M') : CalR (d + 3) j_X9_simple [.ref 0, .int (nI 6), .int x] M (some (.int v)) M' := by
  refine CalR_of (md := md_X9_simple) (d := d + 2) rfl (Nat.le_of_ble_eq_true rfl) ?_
  show WR (CalR (d + 2)) t_X9_simple 9 (some .int) _ 0 [(0, .ref 0), (1, .int (nI 6)), (2, .int x)] [] _
  refine R_iload_n rfl rfl ?_
  refine R_table (pc' := 232) rfl (by decide) ?_
  refine R_aload_n rfl rfl ?_
  refine R_iload_n rfl rfl ?_
  refine R_virt rfl rfl rfl rfl rfl rfl rfl (Nat.le_of_ble_eq_true rfl) (fun _ q => by cases q) (h) ?_
  try refine R_top (y := nI _) (by assumption) ?_
  exact R_iret rfl rfl (by first | trivial | exact Or.inl rfl | exact Or.inr rfl | assumption) ⟨rfl, rfl⟩
theorem r_s7 {d : Nat} {M M' : Mem} {v x : Int32} (h : CalR (d + 2) j_X9_reckon [.ref 0, .int (nI 7)] M (some (.int v)) M') : CalR (d + 3) j_X9_simple [.ref 0, .int (nI 7), .int x] M (some (.int v)) M' := by
  refine CalR_of (md := md_X9_simple) (d := d + 2) rfl (Nat.le_of_ble_eq_true rfl) ?_
  show WR (CalR (d + 2)) t_X9_simple 9 (some .int) _ 0 [(0, .ref 0), (1, .int (nI 7)), (2, .int x)] [] _
  refine R_iload_n rfl rfl ?_
  refine R_table (pc' := 232) rfl (by decide) ?_
  refine R_aload_n rfl rfl ?_
  refine R_iload_n rfl rfl ?_
  refine R_virt rfl rfl rfl rfl rfl rfl rfl (Nat.le_of_ble_eq_true rfl) (fun _ q => by cases q) (h) ?_
  try refine R_top (y := nI _) (by assumption) ?_
  exact R_iret rfl rfl (by first | trivial | exact Or.inl rfl | exact Or.inr rfl | assumption) ⟨rfl, rfl⟩
theorem r_s8 {d : Nat} {M M' : Mem} {v x : Int32} (h : CalR (d + 2) j_X9_reckon [.ref 0, .int (nI 8)] M (some (.int v)) M') : CalR (d + 3) j_X9_simple [.ref 0, .int (nI 8), .int x] M (some (.int v)) M' := by
  refine CalR_of (md := md_X9_simple) (d := d + 2) rfl (Nat.le_of_ble_eq_true rfl) ?_
  show WR (CalR (d + 2)) t_X9_simple 9 (some .int) _ 0 [(0, .ref 0), (1, .int (nI 8)), (2, .int x)] [] _
  refine R_iload_n rfl rfl ?_
  refine R_table (pc' := 232) rfl (by decide) ?_
  refine R_aload_n rfl rfl ?_
  refine R_iload_n rfl rfl ?_
  refine R_virt rfl rfl rfl rfl rfl rfl rfl (Nat.le_of_ble_eq_true rfl) (fun _ q => by cases q) (h) ?_
  try refine R_top (y := nI _) (by assumption) ?_
  exact R_iret rfl rfl (by first | trivial | exact Or.inl rfl | exact Or.inr rfl | assumption) ⟨rfl, rfl⟩
theorem r_s9 {d : Nat} {M M' : Mem} {v x : Int32} (h : CalR (d + 2) j_X9_reckon [.ref 0, .int (nI 9)] M (some (.int v)) M') : CalR (d + 3) j_X9_simple [.ref 0, .int (nI 9), .int x] M (some (.int v)) M' := by
  refine CalR_of (md := md_X9_simple) (d := d + 2) rfl (Nat.le_of_ble_eq_true rfl) ?_
  show WR (CalR (d + 2)) t_X9_simple 9 (some .int) _ 0 [(0, .ref 0), (1, .int (nI 9)), (2, .int x)] [] _
  refine R_iload_n rfl rfl ?_
  refine R_table (pc' := 232) rfl (by decide) ?_
  refine R_aload_n rfl rfl ?_
  refine R_iload_n rfl rfl ?_
  refine R_virt rfl rfl rfl rfl rfl rfl rfl (Nat.le_of_ble_eq_true rfl) (fun _ q => by cases q) (h) ?_
  try refine R_top (y := nI _) (by assumption) ?_
  exact R_iret rfl rfl (by first | trivial | exact Or.inl rfl | exact Or.inr rfl | assumption) ⟨rfl, rfl⟩
theorem r_s10 {d : Nat} {M M' : Mem} {v x : Int32} (h : CalR (d + 2) j_X9_reckon [.ref 0, .int (nI 10)] M (some (.int v)) M') : CalR (d + 3) j_X9_simple [.ref 0, .int (nI 10), .int x] M (some (.int v)) M' := by
  refine CalR_of (md := md_X9_simple) (d := d + 2) rfl (Nat.le_of_ble_eq_true rfl) ?_
  show WR (CalR (d + 2)) t_X9_simple 9 (some .int) _ 0 [(0, .ref 0), (1, .int (nI 10)), (2, .int x)] [] _
  refine R_iload_n rfl rfl ?_
  refine R_table (pc' := 232) rfl (by decide) ?_
  refine R_aload_n rfl rfl ?_
  refine R_iload_n rfl rfl ?_
  refine R_virt rfl rfl rfl rfl rfl rfl rfl (Nat.le_of_ble_eq_true rfl) (fun _ q => by cases q) (h) ?_
  try refine R_top (y := nI _) (by assumption) ?_
  exact R_iret rfl rfl (by first | trivial | exact Or.inl rfl | exact Or.inr rfl | assumption) ⟨rfl, rfl⟩
theorem r_s11 {d : Nat} {M M' : Mem} {v x : Int32} (h : CalR (d + 2) j_X9_reckon [.ref 0, .int (nI 11)] M (some (.int v)) M') : CalR (d + 3) j_X9_simple [.ref 0, .int (nI 11), .int x] M (some (.int v)) M' := by
  refine CalR_of (md := md_X9_simple) (d := d + 2) rfl (Nat.le_of_ble_eq_true rfl) ?_
  show WR (CalR (d + 2)) t_X9_simple 9 (some .int) _ 0 [(0, .ref 0), (1, .int (nI 11)), (2, .int x)] [] _
  refine R_iload_n rfl rfl ?_
  refine R_table (pc' := 232) rfl (by decide) ?_
  refine R_aload_n rfl rfl ?_
  refine R_iload_n rfl rfl ?_
  refine R_virt rfl rfl rfl rfl rfl rfl rfl (Nat.le_of_ble_eq_true rfl) (fun _ q => by cases q) (h) ?_
  try refine R_top (y := nI _) (by assumption) ?_
  exact R_iret rfl rfl (by first | trivial | exact Or.inl rfl | exact Or.inr rfl | assumption) ⟨rfl, rfl⟩
