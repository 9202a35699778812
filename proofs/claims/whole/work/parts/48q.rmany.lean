/-! ===== the reference: many, restart, collections ===== -/
def obc (M : Mem) (b : Int32) (i : Nat) : Nat := if 0 < M 29 i ∧ M 30 i = b then 1 else 0
theorem sumN_le {f : Nat → Nat} {c : Nat} (h : ∀ i, f i ≤ c) : ∀ n, sumN f n ≤ c * n
  | 0 => Nat.le_refl _
  | n + 1 => by
    have := sumN_le h n
    have := h n
    rw [sumN, Nat.mul_succ]
    omega
theorem r_objects {d : Nat} {M : Mem} {b : Int32} : CalR (d + 1) j_X9_objects [.ref 0, .int b] M (some (.int (nI (sumN (obc M b) 1500)))) M := by
  refine CalR_of (md := md_X9_objects) rfl (Nat.le_of_ble_eq_true rfl) ?_
  show WR (CalR d) t_X9_objects 9 (some .int) _ 0 [(0, .ref 0), (1, .int b)] [] _
  refine R_iconst (y := nI 0) rfl (by decide) ?_
  refine R_istore_n (lv' := [(2, _), (0, _), (1, _)]) rfl rfl ?_
  refine R_iconst (y := nI 0) rfl (by decide) ?_
  refine R_istore_n (lv' := [(3, _), (2, _), (0, _), (1, _)]) rfl rfl ?_
  refine dn_up (P := fun s => WR (CalR d) t_X9_objects 9 (some .int) (fun v' M' => v' = some (.int (nI (sumN (obc M b) 1500))) ∧ M' = M) 4 [(3, .int (nI s)), (2, .int (nI (sumN (obc M b) s))), (0, .ref 0), (1, .int b)] [] M) (N := 1500) ?_ ?_ 0 (by omega)
  · refine R_iload_n rfl rfl ?_
    refine R_sipush (y := nI 1500) rfl (by decide) ?_
    refine R_icT (pc' := 44) rfl rfl (by first | assumption | exact icT (by decide) | exact ic_T (by omega) (by omega) (by simp only [icN, not_true_eq_false, not_false_eq_true] <;> omega) | exact ic_T0 (by omega) (by simp only [icN, not_true_eq_false, not_false_eq_true] <;> omega)) ?_
    refine R_iload_n rfl rfl ?_
    exact R_iret rfl rfl (by first | trivial | exact Or.inl rfl | exact Or.inr rfl | assumption) ⟨rfl, rfl⟩
  · intro s hs nx
    have hstep : sumN (obc M b) (s + 1) = sumN (obc M b) s + obc M b s := rfl
    by_cases h1 : M 29 s ≤ 0
    · have e : obc M b s = 0 := if_neg (fun q => absurd q.1 (Int32.not_lt.mpr h1))
      rw [hstep, e, Nat.add_zero] at nx
      refine R_iload_n rfl rfl ?_
      refine R_sipush (y := nI 1500) rfl (by decide) ?_
      refine R_icF rfl (by first | assumption | exact icF (by decide) | exact ic_F (by omega) (by omega) (by simp only [icN, not_true_eq_false, not_false_eq_true] <;> omega) | exact ic_F0 (by omega) (by simp only [icN, not_true_eq_false, not_false_eq_true] <;> omega)) ?_
      refine R_aload_n rfl rfl ?_
      refine R_getA rfl rfl (Or.inl rfl) ?_
      refine R_iload_n rfl rfl ?_
      refine R_iald rfl rfl rfl (show _ < 1500 from by omega) ?_
      try refine R_top (y := nI _) (by assumption) ?_
      refine R_ifT (pc' := 36) rfl rfl (h1) ?_
      refine R_iload_n rfl rfl ?_
      refine R_istore_n (lv' := [(2, _), (3, _), (0, _), (1, _)]) rfl rfl ?_
      refine R_iinc (lv' := [(3, _), (2, _), (0, _), (1, _)]) rfl rfl (by exact nI_1 _) rfl ?_
      refine R_goto (pc' := 4) rfl rfl ?_
      exact nx
    · by_cases h2 : M 30 s = b
      · have e : obc M b s = 1 := if_pos ⟨Int32.not_le.mp h1, h2⟩
        rw [hstep, e] at nx
        refine R_iload_n rfl rfl ?_
        refine R_sipush (y := nI 1500) rfl (by decide) ?_
        refine R_icF rfl (by first | assumption | exact icF (by decide) | exact ic_F (by omega) (by omega) (by simp only [icN, not_true_eq_false, not_false_eq_true] <;> omega) | exact ic_F0 (by omega) (by simp only [icN, not_true_eq_false, not_false_eq_true] <;> omega)) ?_
        refine R_aload_n rfl rfl ?_
        refine R_getA rfl rfl (Or.inl rfl) ?_
        refine R_iload_n rfl rfl ?_
        refine R_iald rfl rfl rfl (show _ < 1500 from by omega) ?_
        try refine R_top (y := nI _) (by assumption) ?_
        refine R_ifF rfl (h1) ?_
        refine R_aload_n rfl rfl ?_
        refine R_getA rfl rfl (Or.inr rfl) ?_
        refine R_iload_n rfl rfl ?_
        refine R_bald rfl rfl rfl (show _ < 1500 from by omega) ?_
        try refine R_top (y := nI _) (by assumption) ?_
        refine R_iload_n rfl rfl ?_
        refine R_icF rfl (fun q => q h2) ?_
        refine R_iload_n rfl rfl ?_
        refine R_iconst (y := nI 1) rfl (by decide) ?_
        first | refine R_iaddN rfl ?_ | refine R_iadd rfl ?_
        refine R_goto (pc' := 37) rfl rfl ?_
        refine R_istore_n (lv' := [(2, _), (3, _), (0, _), (1, _)]) rfl rfl ?_
        refine R_iinc (lv' := [(3, _), (2, _), (0, _), (1, _)]) rfl rfl (by exact nI_1 _) rfl ?_
        refine R_goto (pc' := 4) rfl rfl ?_
        exact nx
      · have e : obc M b s = 0 := if_neg (fun q => h2 q.2)
        rw [hstep, e, Nat.add_zero] at nx
        refine R_iload_n rfl rfl ?_
        refine R_sipush (y := nI 1500) rfl (by decide) ?_
        refine R_icF rfl (by first | assumption | exact icF (by decide) | exact ic_F (by omega) (by omega) (by simp only [icN, not_true_eq_false, not_false_eq_true] <;> omega) | exact ic_F0 (by omega) (by simp only [icN, not_true_eq_false, not_false_eq_true] <;> omega)) ?_
        refine R_aload_n rfl rfl ?_
        refine R_getA rfl rfl (Or.inl rfl) ?_
        refine R_iload_n rfl rfl ?_
        refine R_iald rfl rfl rfl (show _ < 1500 from by omega) ?_
        try refine R_top (y := nI _) (by assumption) ?_
        refine R_ifF rfl (h1) ?_
        refine R_aload_n rfl rfl ?_
        refine R_getA rfl rfl (Or.inr rfl) ?_
        refine R_iload_n rfl rfl ?_
        refine R_bald rfl rfl rfl (show _ < 1500 from by omega) ?_
        try refine R_top (y := nI _) (by assumption) ?_
        refine R_iload_n rfl rfl ?_
        refine R_icT (pc' := 36) rfl rfl (h2) ?_
        refine R_iload_n rfl rfl ?_
        refine R_istore_n (lv' := [(2, _), (3, _), (0, _), (1, _)]) rfl rfl ?_
        refine R_iinc (lv' := [(3, _), (2, _), (0, _), (1, _)]) rfl rfl (by exact nI_1 _) rfl ?_
        refine R_goto (pc' := 4) rfl rfl ?_
        exact nx
theorem r_many13 {d : Nat} {M : Mem} : CalR (d + 2) j_X9_many [.ref 0, .int (nI 13)] M (some (.int (M 5 0))) M := by
  refine CalR_of (md := md_X9_many) (d := d + 1) rfl (Nat.le_of_ble_eq_true rfl) ?_
  show WR (CalR (d + 1)) t_X9_many 9 (some .int) _ 0 [(0, .ref 0), (1, .int (nI 13))] [] _
  refine R_iload_n rfl rfl ?_
  refine R_bipush (y := nI 13) rfl (by decide) ?_
  refine R_icF rfl (by first | assumption | exact icF (by decide) | exact ic_F (by omega) (by omega) (by simp only [icN, not_true_eq_false, not_false_eq_true] <;> omega) | exact ic_F0 (by omega) (by simp only [icN, not_true_eq_false, not_false_eq_true] <;> omega)) ?_
  refine R_aload_n rfl rfl ?_
  refine R_getI rfl rfl (Or.inl rfl) ?_
  try refine R_top (y := nI _) (by assumption) ?_
  exact R_iret rfl rfl (by first | trivial | exact Or.inl rfl | exact Or.inr rfl | assumption) ⟨rfl, rfl⟩
theorem r_manyU {d : Nat} {M : Mem} {x : Int32} (hx : ¬ x = nI 13) (hl : M 7 0 = nI 0) : CalR (d + 2) j_X9_many [.ref 0, .int x] M (some (.int (if x < 0 ∨ nI 13 < x then -1 else nI 0))) M := by
  by_cases h1 : x < 0
  · rw [if_pos (Or.inl h1)]
    refine CalR_of (md := md_X9_many) (d := d + 1) rfl (Nat.le_of_ble_eq_true rfl) ?_
    show WR (CalR (d + 1)) t_X9_many 9 (some .int) _ 0 [(0, .ref 0), (1, .int x)] [] _
    refine R_iload_n rfl rfl ?_
    refine R_bipush (y := nI 13) rfl (by decide) ?_
    refine R_icT (pc' := 11) rfl rfl (hx) ?_
    refine R_aload_n rfl rfl ?_
    refine R_getI rfl rfl (Or.inr rfl) ?_
    try refine R_top (y := nI _) (by assumption) ?_
    refine R_ifF rfl (by first | assumption | exact icF (by decide) | exact ic_F (by omega) (by omega) (by simp only [icN, not_true_eq_false, not_false_eq_true] <;> omega) | exact ic_F0 (by omega) (by simp only [icN, not_true_eq_false, not_false_eq_true] <;> omega)) ?_
    refine R_iload_n rfl rfl ?_
    refine R_ifT (pc' := 28) rfl rfl (h1) ?_
    refine R_iconst (y := (-1)) rfl (by decide) ?_
    refine R_goto (pc' := 33) rfl rfl ?_
    exact R_iret rfl rfl (by first | trivial | exact Or.inl rfl | exact Or.inr rfl | assumption) ⟨rfl, rfl⟩
  · by_cases h2 : nI 13 < x
    · have h3 : ¬ x ≤ nI 13 := Int32.not_le.mpr h2
      rw [if_pos (Or.inr h2)]
      refine CalR_of (md := md_X9_many) (d := d + 1) rfl (Nat.le_of_ble_eq_true rfl) ?_
      show WR (CalR (d + 1)) t_X9_many 9 (some .int) _ 0 [(0, .ref 0), (1, .int x)] [] _
      refine R_iload_n rfl rfl ?_
      refine R_bipush (y := nI 13) rfl (by decide) ?_
      refine R_icT (pc' := 11) rfl rfl (hx) ?_
      refine R_aload_n rfl rfl ?_
      refine R_getI rfl rfl (Or.inr rfl) ?_
      try refine R_top (y := nI _) (by assumption) ?_
      refine R_ifF rfl (by first | assumption | exact icF (by decide) | exact ic_F (by omega) (by omega) (by simp only [icN, not_true_eq_false, not_false_eq_true] <;> omega) | exact ic_F0 (by omega) (by simp only [icN, not_true_eq_false, not_false_eq_true] <;> omega)) ?_
      refine R_iload_n rfl rfl ?_
      refine R_ifF rfl (h1) ?_
      refine R_iload_n rfl rfl ?_
      refine R_bipush (y := nI 13) rfl (by decide) ?_
      refine R_icF rfl (h3) ?_
      refine R_iconst (y := (-1)) rfl (by decide) ?_
      refine R_goto (pc' := 33) rfl rfl ?_
      exact R_iret rfl rfl (by first | trivial | exact Or.inl rfl | exact Or.inr rfl | assumption) ⟨rfl, rfl⟩
    · have h3 : x ≤ nI 13 := Int32.not_lt.mp h2
      rw [if_neg (fun q => q.elim h1 h2)]
      refine CalR_of (md := md_X9_many) (d := d + 1) rfl (Nat.le_of_ble_eq_true rfl) ?_
      show WR (CalR (d + 1)) t_X9_many 9 (some .int) _ 0 [(0, .ref 0), (1, .int x)] [] _
      refine R_iload_n rfl rfl ?_
      refine R_bipush (y := nI 13) rfl (by decide) ?_
      refine R_icT (pc' := 11) rfl rfl (hx) ?_
      refine R_aload_n rfl rfl ?_
      refine R_getI rfl rfl (Or.inr rfl) ?_
      try refine R_top (y := nI _) (by assumption) ?_
      refine R_ifF rfl (by first | assumption | exact icF (by decide) | exact ic_F (by omega) (by omega) (by simp only [icN, not_true_eq_false, not_false_eq_true] <;> omega) | exact ic_F0 (by omega) (by simp only [icN, not_true_eq_false, not_false_eq_true] <;> omega)) ?_
      refine R_iload_n rfl rfl ?_
      refine R_ifF rfl (h1) ?_
      refine R_iload_n rfl rfl ?_
      refine R_bipush (y := nI 13) rfl (by decide) ?_
      refine R_icT (pc' := 32) rfl rfl (h3) ?_
      refine R_iconst (y := nI 0) rfl (by decide) ?_
      exact R_iret rfl rfl (by first | trivial | exact Or.inl rfl | exact Or.inr rfl | assumption) ⟨rfl, rfl⟩
def mnR (M : Mem) (k : Nat) : Int32 := ([M 41 0, M 42 0, nI (sumN (obc M (nI 0)) 1500), nI (sumN (obc M (nI 1)) 1500), M 43 0, M 44 0, M 45 0, M 52 0, M 53 0, M 11 0, M 10 0, M 14 0, M 22 0] : List Int32).getD k 0
theorem r_many0 {d : Nat} {M : Mem} (hl : ¬ M 7 0 = 0) : CalR (d + 2) j_X9_many [.ref 0, .int (nI 0)] M (some (.int (mnR M 0))) M := by
  refine CalR_of (md := md_X9_many) (d := d + 1) rfl (Nat.le_of_ble_eq_true rfl) ?_
  show WR (CalR (d + 1)) t_X9_many 9 (some .int) _ 0 [(0, .ref 0), (1, .int (nI 0))] [] _
  refine R_iload_n rfl rfl ?_
  refine R_bipush (y := nI 13) rfl (by decide) ?_
  refine R_icT (pc' := 11) rfl rfl (by first | assumption | exact icT (by decide) | exact ic_T (by omega) (by omega) (by simp only [icN, not_true_eq_false, not_false_eq_true] <;> omega) | exact ic_T0 (by omega) (by simp only [icN, not_true_eq_false, not_false_eq_true] <;> omega)) ?_
  refine R_aload_n rfl rfl ?_
  refine R_getI rfl rfl (Or.inr rfl) ?_
  try refine R_top (y := nI _) (by assumption) ?_
  refine R_ifT (pc' := 34) rfl rfl (hl) ?_
  refine R_iload_n rfl rfl ?_
  refine R_table (pc' := 100) rfl (by decide) ?_
  refine R_aload_n rfl rfl ?_
  refine R_getI rfl rfl (Or.inl rfl) ?_
  try refine R_top (y := nI _) (by assumption) ?_
  exact R_iret rfl rfl (by first | trivial | exact Or.inl rfl | exact Or.inr rfl | assumption) ⟨rfl, rfl⟩
theorem r_many1 {d : Nat} {M : Mem} (hl : ¬ M 7 0 = 0) : CalR (d + 2) j_X9_many [.ref 0, .int (nI 1)] M (some (.int (mnR M 1))) M := by
  refine CalR_of (md := md_X9_many) (d := d + 1) rfl (Nat.le_of_ble_eq_true rfl) ?_
  show WR (CalR (d + 1)) t_X9_many 9 (some .int) _ 0 [(0, .ref 0), (1, .int (nI 1))] [] _
  refine R_iload_n rfl rfl ?_
  refine R_bipush (y := nI 13) rfl (by decide) ?_
  refine R_icT (pc' := 11) rfl rfl (by first | assumption | exact icT (by decide) | exact ic_T (by omega) (by omega) (by simp only [icN, not_true_eq_false, not_false_eq_true] <;> omega) | exact ic_T0 (by omega) (by simp only [icN, not_true_eq_false, not_false_eq_true] <;> omega)) ?_
  refine R_aload_n rfl rfl ?_
  refine R_getI rfl rfl (Or.inr rfl) ?_
  try refine R_top (y := nI _) (by assumption) ?_
  refine R_ifT (pc' := 34) rfl rfl (hl) ?_
  refine R_iload_n rfl rfl ?_
  refine R_table (pc' := 105) rfl (by decide) ?_
  refine R_aload_n rfl rfl ?_
  refine R_getI rfl rfl (Or.inl rfl) ?_
  try refine R_top (y := nI _) (by assumption) ?_
  exact R_iret rfl rfl (by first | trivial | exact Or.inl rfl | exact Or.inr rfl | assumption) ⟨rfl, rfl⟩
theorem r_many2 {d : Nat} {M : Mem} (hl : ¬ M 7 0 = 0) : CalR (d + 2) j_X9_many [.ref 0, .int (nI 2)] M (some (.int (mnR M 2))) M := by
  refine CalR_of (md := md_X9_many) (d := d + 1) rfl (Nat.le_of_ble_eq_true rfl) ?_
  show WR (CalR (d + 1)) t_X9_many 9 (some .int) _ 0 [(0, .ref 0), (1, .int (nI 2))] [] _
  refine R_iload_n rfl rfl ?_
  refine R_bipush (y := nI 13) rfl (by decide) ?_
  refine R_icT (pc' := 11) rfl rfl (by first | assumption | exact icT (by decide) | exact ic_T (by omega) (by omega) (by simp only [icN, not_true_eq_false, not_false_eq_true] <;> omega) | exact ic_T0 (by omega) (by simp only [icN, not_true_eq_false, not_false_eq_true] <;> omega)) ?_
  refine R_aload_n rfl rfl ?_
  refine R_getI rfl rfl (Or.inr rfl) ?_
  try refine R_top (y := nI _) (by assumption) ?_
  refine R_ifT (pc' := 34) rfl rfl (hl) ?_
  refine R_iload_n rfl rfl ?_
  refine R_table (pc' := 110) rfl (by decide) ?_
  refine R_aload_n rfl rfl ?_
  refine R_iconst (y := nI 0) rfl (by decide) ?_
  refine R_virt rfl rfl rfl rfl rfl rfl rfl (Nat.le_of_ble_eq_true rfl) (fun _ q => by cases q) (r_objects) ?_
  try refine R_top (y := nI _) (by assumption) ?_
  exact R_iret rfl rfl (by first | trivial | exact Or.inl rfl | exact Or.inr rfl | assumption) ⟨rfl, rfl⟩
theorem r_many3 {d : Nat} {M : Mem} (hl : ¬ M 7 0 = 0) : CalR (d + 2) j_X9_many [.ref 0, .int (nI 3)] M (some (.int (mnR M 3))) M := by
  refine CalR_of (md := md_X9_many) (d := d + 1) rfl (Nat.le_of_ble_eq_true rfl) ?_
  show WR (CalR (d + 1)) t_X9_many 9 (some .int) _ 0 [(0, .ref 0), (1, .int (nI 3))] [] _
  refine R_iload_n rfl rfl ?_
  refine R_bipush (y := nI 13) rfl (by decide) ?_
  refine R_icT (pc' := 11) rfl rfl (by first | assumption | exact icT (by decide) | exact ic_T (by omega) (by omega) (by simp only [icN, not_true_eq_false, not_false_eq_true] <;> omega) | exact ic_T0 (by omega) (by simp only [icN, not_true_eq_false, not_false_eq_true] <;> omega)) ?_
  refine R_aload_n rfl rfl ?_
  refine R_getI rfl rfl (Or.inr rfl) ?_
  try refine R_top (y := nI _) (by assumption) ?_
  refine R_ifT (pc' := 34) rfl rfl (hl) ?_
  refine R_iload_n rfl rfl ?_
  refine R_table (pc' := 116) rfl (by decide) ?_
  refine R_aload_n rfl rfl ?_
  refine R_iconst (y := nI 1) rfl (by decide) ?_
  refine R_virt rfl rfl rfl rfl rfl rfl rfl (Nat.le_of_ble_eq_true rfl) (fun _ q => by cases q) (r_objects) ?_
  try refine R_top (y := nI _) (by assumption) ?_
  exact R_iret rfl rfl (by first | trivial | exact Or.inl rfl | exact Or.inr rfl | assumption) ⟨rfl, rfl⟩
theorem r_many4 {d : Nat} {M : Mem} (hl : ¬ M 7 0 = 0) : CalR (d + 2) j_X9_many [.ref 0, .int (nI 4)] M (some (.int (mnR M 4))) M := by
  refine CalR_of (md := md_X9_many) (d := d + 1) rfl (Nat.le_of_ble_eq_true rfl) ?_
  show WR (CalR (d + 1)) t_X9_many 9 (some .int) _ 0 [(0, .ref 0), (1, .int (nI 4))] [] _
  refine R_iload_n rfl rfl ?_
  refine R_bipush (y := nI 13) rfl (by decide) ?_
  refine R_icT (pc' := 11) rfl rfl (by first | assumption | exact icT (by decide) | exact ic_T (by omega) (by omega) (by simp only [icN, not_true_eq_false, not_false_eq_true] <;> omega) | exact ic_T0 (by omega) (by simp only [icN, not_true_eq_false, not_false_eq_true] <;> omega)) ?_
  refine R_aload_n rfl rfl ?_
  refine R_getI rfl rfl (Or.inr rfl) ?_
  try refine R_top (y := nI _) (by assumption) ?_
  refine R_ifT (pc' := 34) rfl rfl (hl) ?_
  refine R_iload_n rfl rfl ?_
  refine R_table (pc' := 122) rfl (by decide) ?_
  refine R_aload_n rfl rfl ?_
  refine R_getI rfl rfl (Or.inl rfl) ?_
  try refine R_top (y := nI _) (by assumption) ?_
  exact R_iret rfl rfl (by first | trivial | exact Or.inl rfl | exact Or.inr rfl | assumption) ⟨rfl, rfl⟩
theorem r_many5 {d : Nat} {M : Mem} (hl : ¬ M 7 0 = 0) : CalR (d + 2) j_X9_many [.ref 0, .int (nI 5)] M (some (.int (mnR M 5))) M := by
  refine CalR_of (md := md_X9_many) (d := d + 1) rfl (Nat.le_of_ble_eq_true rfl) ?_
  show WR (CalR (d + 1)) t_X9_many 9 (some .int) _ 0 [(0, .ref 0), (1, .int (nI 5))] [] _
  refine R_iload_n rfl rfl ?_
  refine R_bipush (y := nI 13) rfl (by decide) ?_
  refine R_icT (pc' := 11) rfl rfl (by first | assumption | exact icT (by decide) | exact ic_T (by omega) (by omega) (by simp only [icN, not_true_eq_false, not_false_eq_true] <;> omega) | exact ic_T0 (by omega) (by simp only [icN, not_true_eq_false, not_false_eq_true] <;> omega)) ?_
  refine R_aload_n rfl rfl ?_
  refine R_getI rfl rfl (Or.inr rfl) ?_
  try refine R_top (y := nI _) (by assumption) ?_
  refine R_ifT (pc' := 34) rfl rfl (hl) ?_
  refine R_iload_n rfl rfl ?_
  refine R_table (pc' := 127) rfl (by decide) ?_
  refine R_aload_n rfl rfl ?_
  refine R_getI rfl rfl (Or.inl rfl) ?_
  try refine R_top (y := nI _) (by assumption) ?_
  exact R_iret rfl rfl (by first | trivial | exact Or.inl rfl | exact Or.inr rfl | assumption) ⟨rfl, rfl⟩
theorem r_many6 {d : Nat} {M : Mem} (hl : ¬ M 7 0 = 0) : CalR (d + 2) j_X9_many [.ref 0, .int (nI 6)] M (some (.int (mnR M 6))) M := by
  refine CalR_of (md := md_X9_many) (d := d + 1) rfl (Nat.le_of_ble_eq_true rfl) ?_
  show WR (CalR (d + 1)) t_X9_many 9 (some .int) _ 0 [(0, .ref 0), (1, .int (nI 6))] [] _
  refine R_iload_n rfl rfl ?_
  refine R_bipush (y := nI 13) rfl (by decide) ?_
  refine R_icT (pc' := 11) rfl rfl (by first | assumption | exact icT (by decide) | exact ic_T (by omega) (by omega) (by simp only [icN, not_true_eq_false, not_false_eq_true] <;> omega) | exact ic_T0 (by omega) (by simp only [icN, not_true_eq_false, not_false_eq_true] <;> omega)) ?_
  refine R_aload_n rfl rfl ?_
  refine R_getI rfl rfl (Or.inr rfl) ?_
  try refine R_top (y := nI _) (by assumption) ?_
  refine R_ifT (pc' := 34) rfl rfl (hl) ?_
  refine R_iload_n rfl rfl ?_
  refine R_table (pc' := 132) rfl (by decide) ?_
  refine R_aload_n rfl rfl ?_
  refine R_getI rfl rfl (Or.inl rfl) ?_
  try refine R_top (y := nI _) (by assumption) ?_
  exact R_iret rfl rfl (by first | trivial | exact Or.inl rfl | exact Or.inr rfl | assumption) ⟨rfl, rfl⟩
theorem r_many7 {d : Nat} {M : Mem} (hl : ¬ M 7 0 = 0) : CalR (d + 2) j_X9_many [.ref 0, .int (nI 7)] M (some (.int (mnR M 7))) M := by
  refine CalR_of (md := md_X9_many) (d := d + 1) rfl (Nat.le_of_ble_eq_true rfl) ?_
  show WR (CalR (d + 1)) t_X9_many 9 (some .int) _ 0 [(0, .ref 0), (1, .int (nI 7))] [] _
  refine R_iload_n rfl rfl ?_
  refine R_bipush (y := nI 13) rfl (by decide) ?_
  refine R_icT (pc' := 11) rfl rfl (by first | assumption | exact icT (by decide) | exact ic_T (by omega) (by omega) (by simp only [icN, not_true_eq_false, not_false_eq_true] <;> omega) | exact ic_T0 (by omega) (by simp only [icN, not_true_eq_false, not_false_eq_true] <;> omega)) ?_
  refine R_aload_n rfl rfl ?_
  refine R_getI rfl rfl (Or.inr rfl) ?_
  try refine R_top (y := nI _) (by assumption) ?_
  refine R_ifT (pc' := 34) rfl rfl (hl) ?_
  refine R_iload_n rfl rfl ?_
  refine R_table (pc' := 137) rfl (by decide) ?_
  refine R_aload_n rfl rfl ?_
  refine R_getI rfl rfl (Or.inl rfl) ?_
  try refine R_top (y := nI _) (by assumption) ?_
  exact R_iret rfl rfl (by first | trivial | exact Or.inl rfl | exact Or.inr rfl | assumption) ⟨rfl, rfl⟩
theorem r_many8 {d : Nat} {M : Mem} (hl : ¬ M 7 0 = 0) : CalR (d + 2) j_X9_many [.ref 0, .int (nI 8)] M (some (.int (mnR M 8))) M := by
  refine CalR_of (md := md_X9_many) (d := d + 1) rfl (Nat.le_of_ble_eq_true rfl) ?_
  show WR (CalR (d + 1)) t_X9_many 9 (some .int) _ 0 [(0, .ref 0), (1, .int (nI 8))] [] _
  refine R_iload_n rfl rfl ?_
  refine R_bipush (y := nI 13) rfl (by decide) ?_
  refine R_icT (pc' := 11) rfl rfl (by first | assumption | exact icT (by decide) | exact ic_T (by omega) (by omega) (by simp only [icN, not_true_eq_false, not_false_eq_true] <;> omega) | exact ic_T0 (by omega) (by simp only [icN, not_true_eq_false, not_false_eq_true] <;> omega)) ?_
  refine R_aload_n rfl rfl ?_
  refine R_getI rfl rfl (Or.inr rfl) ?_
  try refine R_top (y := nI _) (by assumption) ?_
  refine R_ifT (pc' := 34) rfl rfl (hl) ?_
  refine R_iload_n rfl rfl ?_
  refine R_table (pc' := 142) rfl (by decide) ?_
  refine R_aload_n rfl rfl ?_
  refine R_getI rfl rfl (Or.inl rfl) ?_
  try refine R_top (y := nI _) (by assumption) ?_
  exact R_iret rfl rfl (by first | trivial | exact Or.inl rfl | exact Or.inr rfl | assumption) ⟨rfl, rfl⟩
theorem r_many9 {d : Nat} {M : Mem} (hl : ¬ M 7 0 = 0) : CalR (d + 2) j_X9_many [.ref 0, .int (nI 9)] M (some (.int (mnR M 9))) M := by
  refine CalR_of (md := md_X9_many) (d := d + 1) rfl (Nat.le_of_ble_eq_true rfl) ?_
  show WR (CalR (d + 1)) t_X9_many 9 (some .int) _ 0 [(0, .ref 0), (1, .int (nI 9))] [] _
  refine R_iload_n rfl rfl ?_
  refine R_bipush (y := nI 13) rfl (by decide) ?_
  refine R_icT (pc' := 11) rfl rfl (by first | assumption | exact icT (by decide) | exact ic_T (by omega) (by omega) (by simp only [icN, not_true_eq_false, not_false_eq_true] <;> omega) | exact ic_T0 (by omega) (by simp only [icN, not_true_eq_false, not_false_eq_true] <;> omega)) ?_
  refine R_aload_n rfl rfl ?_
  refine R_getI rfl rfl (Or.inr rfl) ?_
  try refine R_top (y := nI _) (by assumption) ?_
  refine R_ifT (pc' := 34) rfl rfl (hl) ?_
  refine R_iload_n rfl rfl ?_
  refine R_table (pc' := 147) rfl (by decide) ?_
  refine R_aload_n rfl rfl ?_
  refine R_getI rfl rfl (Or.inl rfl) ?_
  try refine R_top (y := nI _) (by assumption) ?_
  exact R_iret rfl rfl (by first | trivial | exact Or.inl rfl | exact Or.inr rfl | assumption) ⟨rfl, rfl⟩
theorem r_many10 {d : Nat} {M : Mem} (hl : ¬ M 7 0 = 0) : CalR (d + 2) j_X9_many [.ref 0, .int (nI 10)] M (some (.int (mnR M 10))) M := by
  refine CalR_of (md := md_X9_many) (d := d + 1) rfl (Nat.le_of_ble_eq_true rfl) ?_
  show WR (CalR (d + 1)) t_X9_many 9 (some .int) _ 0 [(0, .ref 0), (1, .int (nI 10))] [] _
  refine R_iload_n rfl rfl ?_
  refine R_bipush (y := nI 13) rfl (by decide) ?_
  refine R_icT (pc' := 11) rfl rfl (by first | assumption | exact icT (by decide) | exact ic_T (by omega) (by omega) (by simp only [icN, not_true_eq_false, not_false_eq_true] <;> omega) | exact ic_T0 (by omega) (by simp only [icN, not_true_eq_false, not_false_eq_true] <;> omega)) ?_
  refine R_aload_n rfl rfl ?_
  refine R_getI rfl rfl (Or.inr rfl) ?_
  try refine R_top (y := nI _) (by assumption) ?_
  refine R_ifT (pc' := 34) rfl rfl (hl) ?_
  refine R_iload_n rfl rfl ?_
  refine R_table (pc' := 152) rfl (by decide) ?_
  refine R_aload_n rfl rfl ?_
  refine R_getI rfl rfl (Or.inl rfl) ?_
  try refine R_top (y := nI _) (by assumption) ?_
  exact R_iret rfl rfl (by first | trivial | exact Or.inl rfl | exact Or.inr rfl | assumption) ⟨rfl, rfl⟩
theorem r_many11 {d : Nat} {M : Mem} (hl : ¬ M 7 0 = 0) : CalR (d + 2) j_X9_many [.ref 0, .int (nI 11)] M (some (.int (mnR M 11))) M := by
  refine CalR_of (md := md_X9_many) (d := d + 1) rfl (Nat.le_of_ble_eq_true rfl) ?_
  show WR (CalR (d + 1)) t_X9_many 9 (some .int) _ 0 [(0, .ref 0), (1, .int (nI 11))] [] _
  refine R_iload_n rfl rfl ?_
  refine R_bipush (y := nI 13) rfl (by decide) ?_
  refine R_icT (pc' := 11) rfl rfl (by first | assumption | exact icT (by decide) | exact ic_T (by omega) (by omega) (by simp only [icN, not_true_eq_false, not_false_eq_true] <;> omega) | exact ic_T0 (by omega) (by simp only [icN, not_true_eq_false, not_false_eq_true] <;> omega)) ?_
  refine R_aload_n rfl rfl ?_
  refine R_getI rfl rfl (Or.inr rfl) ?_
  try refine R_top (y := nI _) (by assumption) ?_
  refine R_ifT (pc' := 34) rfl rfl (hl) ?_
  refine R_iload_n rfl rfl ?_
  refine R_table (pc' := 157) rfl (by decide) ?_
  refine R_aload_n rfl rfl ?_
  refine R_getI rfl rfl (Or.inl rfl) ?_
  try refine R_top (y := nI _) (by assumption) ?_
  exact R_iret rfl rfl (by first | trivial | exact Or.inl rfl | exact Or.inr rfl | assumption) ⟨rfl, rfl⟩
theorem r_many12 {d : Nat} {M : Mem} (hl : ¬ M 7 0 = 0) : CalR (d + 2) j_X9_many [.ref 0, .int (nI 12)] M (some (.int (mnR M 12))) M := by
  refine CalR_of (md := md_X9_many) (d := d + 1) rfl (Nat.le_of_ble_eq_true rfl) ?_
  show WR (CalR (d + 1)) t_X9_many 9 (some .int) _ 0 [(0, .ref 0), (1, .int (nI 12))] [] _
  refine R_iload_n rfl rfl ?_
  refine R_bipush (y := nI 13) rfl (by decide) ?_
  refine R_icT (pc' := 11) rfl rfl (by first | assumption | exact icT (by decide) | exact ic_T (by omega) (by omega) (by simp only [icN, not_true_eq_false, not_false_eq_true] <;> omega) | exact ic_T0 (by omega) (by simp only [icN, not_true_eq_false, not_false_eq_true] <;> omega)) ?_
  refine R_aload_n rfl rfl ?_
  refine R_getI rfl rfl (Or.inr rfl) ?_
  try refine R_top (y := nI _) (by assumption) ?_
  refine R_ifT (pc' := 34) rfl rfl (hl) ?_
  refine R_iload_n rfl rfl ?_
  refine R_table (pc' := 162) rfl (by decide) ?_
  refine R_aload_n rfl rfl ?_
  refine R_getI rfl rfl (Or.inl rfl) ?_
  try refine R_top (y := nI _) (by assumption) ?_
  exact R_iret rfl rfl (by first | trivial | exact Or.inl rfl | exact Or.inr rfl | assumption) ⟨rfl, rfl⟩
theorem r_manyN {d : Nat} {M : Mem} {x : Int32} (hl : ¬ M 7 0 = 0) (h : x.toInt < 0 ∨ (12 : Int) < x.toInt) (hx : ¬ x = nI 13) : CalR (d + 2) j_X9_many [.ref 0, .int x] M (some (.int (-1))) M := by
  refine CalR_of (md := md_X9_many) (d := d + 1) rfl (Nat.le_of_ble_eq_true rfl) ?_
  show WR (CalR (d + 1)) t_X9_many 9 (some .int) _ 0 [(0, .ref 0), (1, .int x)] [] _
  refine R_iload_n rfl rfl ?_
  refine R_bipush (y := nI 13) rfl (by decide) ?_
  refine R_icT (pc' := 11) rfl rfl (hx) ?_
  refine R_aload_n rfl rfl ?_
  refine R_getI rfl rfl (Or.inr rfl) ?_
  try refine R_top (y := nI _) (by assumption) ?_
  refine R_ifT (pc' := 34) rfl rfl (hl) ?_
  refine R_iload_n rfl rfl ?_
  refine R_table (pc' := 167) rfl (congrArg (jt 35) (swt_out h)) ?_
  refine R_iconst (y := (-1)) rfl (by decide) ?_
  exact R_iret rfl rfl (by first | trivial | exact Or.inl rfl | exact Or.inr rfl | assumption) ⟨rfl, rfl⟩
theorem r_restU {d : Nat} {M : Mem} (hl : M 7 0 = nI 0) : CalR (d + 2) j_X9_restart [.ref 0] M (some (.int (-1))) M := by
  refine CalR_of (md := md_X9_restart) (d := d + 1) rfl (Nat.le_of_ble_eq_true rfl) ?_
  show WR (CalR (d + 1)) t_X9_restart 9 (some .int) _ 0 [(0, .ref 0)] [] _
  refine R_aload_n rfl rfl ?_
  refine R_getI rfl rfl (Or.inr rfl) ?_
  try refine R_top (y := nI _) (by assumption) ?_
  refine R_ifF rfl (by first | assumption | exact icF (by decide) | exact ic_F (by omega) (by omega) (by simp only [icN, not_true_eq_false, not_false_eq_true] <;> omega) | exact ic_F0 (by omega) (by simp only [icN, not_true_eq_false, not_false_eq_true] <;> omega)) ?_
  refine R_iconst (y := (-1)) rfl (by decide) ?_
  exact R_iret rfl rfl (by first | trivial | exact Or.inl rfl | exact Or.inr rfl | assumption) ⟨rfl, rfl⟩
theorem r_restart {d : Nat} {M : Mem} (hl : ¬ M 7 0 = 0) : CalR (d + 2) j_X9_restart [.ref 0] M (some (.int (M 11 0))) (clrM M) := by
  refine CalR_of (md := md_X9_restart) (d := d + 1) rfl (Nat.le_of_ble_eq_true rfl) ?_
  show WR (CalR (d + 1)) t_X9_restart 9 (some .int) _ 0 [(0, .ref 0)] [] _
  refine R_aload_n rfl rfl ?_
  refine R_getI rfl rfl (Or.inr rfl) ?_
  try refine R_top (y := nI _) (by assumption) ?_
  refine R_ifT (pc' := 9) rfl rfl (hl) ?_
  refine R_aload_n rfl rfl ?_
  refine R_getI rfl rfl (Or.inl rfl) ?_
  try refine R_top (y := nI _) (by assumption) ?_
  refine R_istore_n (lv' := [(1, _), (0, _)]) rfl rfl ?_
  refine R_aload_n rfl rfl ?_
  refine R_virt rfl rfl rfl rfl rfl rfl rfl (Nat.le_of_ble_eq_true rfl) (fun _ q => by cases q) (r_clear) ?_
  refine R_iload_n rfl rfl ?_
  exact R_iret rfl rfl (by first | trivial | exact Or.inl rfl | exact Or.inr rfl | assumption) ⟨rfl, rfl⟩
theorem r_cMinU {d : Nat} {M : Mem} (hl : M 7 0 = nI 0) : CalR (d + 5) j_X9_collectMinor [.ref 0] M (some (.int (-1))) M := by
  refine CalR_of (md := md_X9_collectMinor) (d := d + 4) rfl (Nat.le_of_ble_eq_true rfl) ?_
  show WR (CalR (d + 4)) t_X9_collectMinor 9 (some .int) _ 0 [(0, .ref 0)] [] _
  refine R_aload_n rfl rfl ?_
  refine R_getI rfl rfl (Or.inr rfl) ?_
  try refine R_top (y := nI _) (by assumption) ?_
  refine R_ifF rfl (by first | assumption | exact icF (by decide) | exact ic_F (by omega) (by omega) (by simp only [icN, not_true_eq_false, not_false_eq_true] <;> omega) | exact ic_F0 (by omega) (by simp only [icN, not_true_eq_false, not_false_eq_true] <;> omega)) ?_
  refine R_iconst (y := (-1)) rfl (by decide) ?_
  exact R_iret rfl rfl (by first | trivial | exact Or.inl rfl | exact Or.inr rfl | assumption) ⟨rfl, rfl⟩
theorem r_cMin {d : Nat} {M : Mem} {p f : Nat} {lm : Nat → Nat} (hw : wfR M p f lm) (hl : ¬ M 7 0 = 0) : CQ (d + 5) j_X9_collectMinor [.ref 0] M (fun v M2 => (minR M p f lm (some (.int 1)) M2 ∧ v = some (.int (M2 46 0))) ∨ (minR M p f lm (some (.int 0)) M2 ∧ v = some (.int (-3)))) := by
  refine CQ_of (md := md_X9_collectMinor) (d := d + 4) rfl (Nat.le_of_ble_eq_true rfl) ?_
  show WR (CalR (d + 4)) t_X9_collectMinor 9 (some .int) _ 0 [(0, .ref 0)] [] _
  refine R_aload_n rfl rfl ?_
  refine R_getI rfl rfl (Or.inr rfl) ?_
  try refine R_top (y := nI _) (by assumption) ?_
  refine R_ifT (pc' := 9) rfl rfl (hl) ?_
  refine R_aload_n rfl rfl ?_
  refine R_vq rfl rfl rfl rfl rfl rfl rfl (Nat.le_of_ble_eq_true rfl) (r_minor hw) ?_
  intro v M2 hm
  rcases minR_v hm with rfl | rfl
  · show WR (CalR (d + 4)) t_X9_collectMinor 9 (some .int) _ 13 [(0, .ref 0)] [.int 1] M2
    refine R_ifF rfl (by first | assumption | exact icF (by decide) | exact ic_F (by omega) (by omega) (by simp only [icN, not_true_eq_false, not_false_eq_true] <;> omega) | exact ic_F0 (by omega) (by simp only [icN, not_true_eq_false, not_false_eq_true] <;> omega)) ?_
    refine R_aload_n rfl rfl ?_
    refine R_getI rfl rfl (Or.inl rfl) ?_
    try refine R_top (y := nI _) (by assumption) ?_
    refine R_goto (pc' := 25) rfl rfl ?_
    exact R_iret rfl rfl trivial (Or.inl ⟨hm, rfl⟩)
  · show WR (CalR (d + 4)) t_X9_collectMinor 9 (some .int) _ 13 [(0, .ref 0)] [.int 0] M2
    refine R_ifT (pc' := 23) rfl rfl (by first | assumption | exact icT (by decide) | exact ic_T (by omega) (by omega) (by simp only [icN, not_true_eq_false, not_false_eq_true] <;> omega) | exact ic_T0 (by omega) (by simp only [icN, not_true_eq_false, not_false_eq_true] <;> omega)) ?_
    refine R_bipush (y := (-3)) rfl (by decide) ?_
    exact R_iret rfl rfl trivial (Or.inr ⟨hm, rfl⟩)
theorem r_cMajU {d : Nat} {M : Mem} (hl : M 7 0 = nI 0) : CalR (d + 5) j_X9_collectMajor [.ref 0] M (some (.int (-1))) M := by
  refine CalR_of (md := md_X9_collectMajor) (d := d + 4) rfl (Nat.le_of_ble_eq_true rfl) ?_
  show WR (CalR (d + 4)) t_X9_collectMajor 9 (some .int) _ 0 [(0, .ref 0)] [] _
  refine R_aload_n rfl rfl ?_
  refine R_getI rfl rfl (Or.inr rfl) ?_
  try refine R_top (y := nI _) (by assumption) ?_
  refine R_ifT (pc' := 14) rfl rfl (by first | assumption | exact icT (by decide) | exact ic_T (by omega) (by omega) (by simp only [icN, not_true_eq_false, not_false_eq_true] <;> omega) | exact ic_T0 (by omega) (by simp only [icN, not_true_eq_false, not_false_eq_true] <;> omega)) ?_
  refine R_iconst (y := (-1)) rfl (by decide) ?_
  exact R_iret rfl rfl (by first | trivial | exact Or.inl rfl | exact Or.inr rfl | assumption) ⟨rfl, rfl⟩
theorem r_cMaj {d : Nat} {M : Mem} {p f : Nat} {lm : Nat → Nat} (hw : wfR M p f lm) (hl : ¬ M 7 0 = 0) : CQ (d + 5) j_X9_collectMajor [.ref 0] M (fun v M2 => ∃ L, isR M p f lm 0 L ∧ v = some (.int (nI (sumN (fun i => if frJ M L i = true then szM M i else 0) 1500))) ∧ eqm (majM M L) M2) := by
  refine CQ_of (md := md_X9_collectMajor) (d := d + 4) rfl (Nat.le_of_ble_eq_true rfl) ?_
  show WR (CalR (d + 4)) t_X9_collectMajor 9 (some .int) _ 0 [(0, .ref 0)] [] _
  refine R_aload_n rfl rfl ?_
  refine R_getI rfl rfl (Or.inr rfl) ?_
  try refine R_top (y := nI _) (by assumption) ?_
  refine R_ifF rfl (hl) ?_
  refine R_aload_n rfl rfl ?_
  refine R_vq rfl rfl rfl rfl rfl rfl rfl (Nat.le_of_ble_eq_true rfl) (r_major hw) ?_
  rintro v M2 ⟨L, h1, rfl, h3⟩
  refine R_goto (pc' := 15) rfl rfl ?_
  exact R_iret rfl rfl trivial ⟨L, h1, rfl, h3⟩
theorem r_stepU {d : Nat} {M : Mem} (hl : M 7 0 = nI 0) : CalR (d + 8) j_X9_step [.ref 0] M (some (.int (-1))) M := by
  refine CalR_of (md := md_X9_step) (d := d + 7) rfl (Nat.le_of_ble_eq_true rfl) ?_
  show WR (CalR (d + 7)) t_X9_step 9 (some .int) _ 0 [(0, .ref 0)] [] _
  refine R_aload_n rfl rfl ?_
  refine R_getI rfl rfl (Or.inr rfl) ?_
  try refine R_top (y := nI _) (by assumption) ?_
  refine R_ifF rfl (by first | assumption | exact icF (by decide) | exact ic_F (by omega) (by omega) (by simp only [icN, not_true_eq_false, not_false_eq_true] <;> omega) | exact ic_F0 (by omega) (by simp only [icN, not_true_eq_false, not_false_eq_true] <;> omega)) ?_
  refine R_iconst (y := (-1)) rfl (by decide) ?_
  exact R_iret rfl rfl (by first | trivial | exact Or.inl rfl | exact Or.inr rfl | assumption) ⟨rfl, rfl⟩
theorem r_stepE {d : Nat} {M : Mem} (hl : ¬ M 7 0 = 0) (hs : ¬ M 9 0 = 0) : CalR (d + 8) j_X9_step [.ref 0] M (some (.int (M 9 0))) M := by
  refine CalR_of (md := md_X9_step) (d := d + 7) rfl (Nat.le_of_ble_eq_true rfl) ?_
  show WR (CalR (d + 7)) t_X9_step 9 (some .int) _ 0 [(0, .ref 0)] [] _
  refine R_aload_n rfl rfl ?_
  refine R_getI rfl rfl (Or.inr rfl) ?_
  try refine R_top (y := nI _) (by assumption) ?_
  refine R_ifT (pc' := 9) rfl rfl (hl) ?_
  refine R_aload_n rfl rfl ?_
  refine R_getI rfl rfl (Or.inl rfl) ?_
  try refine R_top (y := nI _) (by assumption) ?_
  refine R_ifT (pc' := 23) rfl rfl (hs) ?_
  refine R_aload_n rfl rfl ?_
  refine R_getI rfl rfl (Or.inl rfl) ?_
  try refine R_top (y := nI _) (by assumption) ?_
  exact R_iret rfl rfl (by first | trivial | exact Or.inl rfl | exact Or.inr rfl | assumption) ⟨rfl, rfl⟩
theorem r_step {d : Nat} {M M' : Mem} {x : Int32} (hl : ¬ M 7 0 = 0) (hs : M 9 0 = nI 0) (h : CalR (d + 7) j_X9_oneStep [.ref 0] M (some (.int x)) M') : CalR (d + 8) j_X9_step [.ref 0] M (some (.int x)) M' := by
  refine CalR_of (md := md_X9_step) (d := d + 7) rfl (Nat.le_of_ble_eq_true rfl) ?_
  show WR (CalR (d + 7)) t_X9_step 9 (some .int) _ 0 [(0, .ref 0)] [] _
  refine R_aload_n rfl rfl ?_
  refine R_getI rfl rfl (Or.inr rfl) ?_
  try refine R_top (y := nI _) (by assumption) ?_
  refine R_ifT (pc' := 9) rfl rfl (hl) ?_
  refine R_aload_n rfl rfl ?_
  refine R_getI rfl rfl (Or.inl rfl) ?_
  try refine R_top (y := nI _) (by assumption) ?_
  refine R_ifF rfl (by first | assumption | exact icF (by decide) | exact ic_F (by omega) (by omega) (by simp only [icN, not_true_eq_false, not_false_eq_true] <;> omega) | exact ic_F0 (by omega) (by simp only [icN, not_true_eq_false, not_false_eq_true] <;> omega)) ?_
  refine R_aload_n rfl rfl ?_
  refine R_virt rfl rfl rfl rfl rfl rfl rfl (Nat.le_of_ble_eq_true rfl) (fun _ q => by cases q) (h) ?_
  try refine R_top (y := nI _) (by assumption) ?_
  refine R_goto (pc' := 27) rfl rfl ?_
  exact R_iret rfl rfl (by first | trivial | exact Or.inl rfl | exact Or.inr rfl | assumption) ⟨rfl, rfl⟩
theorem r_runU {d : Nat} {M : Mem} {n : Int32} (h : M 7 0 = 0 ∨ n < 0 ∨ nI 20000 < n) : CalR (d + 8) j_X9_run [.ref 0, .int n] M (some (.int (-1))) M := by
  by_cases h1 : M 7 0 = 0
  · clear h
    refine CalR_of (md := md_X9_run) (d := d + 7) rfl (Nat.le_of_ble_eq_true rfl) ?_
    show WR (CalR (d + 7)) t_X9_run 9 (some .int) _ 0 [(0, .ref 0), (1, .int n)] [] _
    refine R_aload_n rfl rfl ?_
    refine R_getI rfl rfl (Or.inr rfl) ?_
    try refine R_top (y := nI _) (by assumption) ?_
    refine R_ifT (pc' := 18) rfl rfl (by first | assumption | exact icT (by decide) | exact ic_T (by omega) (by omega) (by simp only [icN, not_true_eq_false, not_false_eq_true] <;> omega) | exact ic_T0 (by omega) (by simp only [icN, not_true_eq_false, not_false_eq_true] <;> omega)) ?_
    refine R_iconst (y := (-1)) rfl (by decide) ?_
    exact R_iret rfl rfl (by first | trivial | exact Or.inl rfl | exact Or.inr rfl | assumption) ⟨rfl, rfl⟩
  · by_cases h2 : n < 0
    · refine CalR_of (md := md_X9_run) (d := d + 7) rfl (Nat.le_of_ble_eq_true rfl) ?_
      show WR (CalR (d + 7)) t_X9_run 9 (some .int) _ 0 [(0, .ref 0), (1, .int n)] [] _
      refine R_aload_n rfl rfl ?_
      refine R_getI rfl rfl (Or.inr rfl) ?_
      try refine R_top (y := nI _) (by assumption) ?_
      refine R_ifF rfl (h1) ?_
      refine R_iload_n rfl rfl ?_
      refine R_ifT (pc' := 18) rfl rfl (h2) ?_
      refine R_iconst (y := (-1)) rfl (by decide) ?_
      exact R_iret rfl rfl (by first | trivial | exact Or.inl rfl | exact Or.inr rfl | assumption) ⟨rfl, rfl⟩
    · have h3 : ¬ n ≤ nI 20000 := fun q => by
        rcases h with r | r | r
        · exact h1 r
        · exact h2 r
        · exact absurd r (Int32.not_lt.mpr q)
      refine CalR_of (md := md_X9_run) (d := d + 7) rfl (Nat.le_of_ble_eq_true rfl) ?_
      show WR (CalR (d + 7)) t_X9_run 9 (some .int) _ 0 [(0, .ref 0), (1, .int n)] [] _
      refine R_aload_n rfl rfl ?_
      refine R_getI rfl rfl (Or.inr rfl) ?_
      try refine R_top (y := nI _) (by assumption) ?_
      refine R_ifF rfl (h1) ?_
      refine R_iload_n rfl rfl ?_
      refine R_ifF rfl (h2) ?_
      refine R_iload_n rfl rfl ?_
      refine R_sipush (y := nI 20000) rfl (by decide) ?_
      refine R_icF rfl (h3) ?_
      refine R_iconst (y := (-1)) rfl (by decide) ?_
      exact R_iret rfl rfl (by first | trivial | exact Or.inl rfl | exact Or.inr rfl | assumption) ⟨rfl, rfl⟩
theorem r_runL {d : Nat} {M : Mem} {n : Nat} {M' : Mem} {x : Int32} (hl : ¬ M 7 0 = 0) (hn : n ≤ 20000) (h : WR (CalR (d + 7)) t_X9_run 9 (some .int) (fun v' M1 => v' = some (.int x) ∧ M1 = M') 22 [(2, .int (nI 0)), (0, .ref 0), (1, .int (nI n))] [] M) : CalR (d + 8) j_X9_run [.ref 0, .int (nI n)] M (some (.int x)) M' := by
  refine CalR_of (md := md_X9_run) (d := d + 7) rfl (Nat.le_of_ble_eq_true rfl) ?_
  show WR (CalR (d + 7)) t_X9_run 9 (some .int) _ 0 [(0, .ref 0), (1, .int (nI n))] [] _
  refine R_aload_n rfl rfl ?_
  refine R_getI rfl rfl (Or.inr rfl) ?_
  try refine R_top (y := nI _) (by assumption) ?_
  refine R_ifF rfl (hl) ?_
  refine R_iload_n rfl rfl ?_
  refine R_ifF rfl (by first | assumption | exact icF (by decide) | exact ic_F (by omega) (by omega) (by simp only [icN, not_true_eq_false, not_false_eq_true] <;> omega) | exact ic_F0 (by omega) (by simp only [icN, not_true_eq_false, not_false_eq_true] <;> omega)) ?_
  refine R_iload_n rfl rfl ?_
  refine R_sipush (y := nI 20000) rfl (by decide) ?_
  refine R_icT (pc' := 20) rfl rfl (by first | assumption | exact icT (by decide) | exact ic_T (by omega) (by omega) (by simp only [icN, not_true_eq_false, not_false_eq_true] <;> omega) | exact ic_T0 (by omega) (by simp only [icN, not_true_eq_false, not_false_eq_true] <;> omega)) ?_
  refine R_iconst (y := nI 0) rfl (by decide) ?_
  refine R_istore_n (lv' := [(2, _), (0, _), (1, _)]) rfl rfl ?_
  exact h
theorem r_run0 {d : Nat} {M : Mem} {n i : Nat} (h : n ≤ i ∨ ¬ M 9 0 = 0) (hn : n ≤ 20000) (hi : i ≤ 20000) : WR (CalR (d + 7)) t_X9_run 9 (some .int) (fun v' M1 => v' = some (.int (M 9 0)) ∧ M1 = M) 22 [(2, .int (nI i)), (0, .ref 0), (1, .int (nI n))] [] M := by
  by_cases h1 : n ≤ i
  · refine R_iload_n rfl rfl ?_
    refine R_iload_n rfl rfl ?_
    refine R_icT (pc' := 48) rfl rfl (by first | assumption | exact icT (by decide) | exact ic_T (by omega) (by omega) (by simp only [icN, not_true_eq_false, not_false_eq_true] <;> omega) | exact ic_T0 (by omega) (by simp only [icN, not_true_eq_false, not_false_eq_true] <;> omega)) ?_
    refine R_aload_n rfl rfl ?_
    refine R_getI rfl rfl (Or.inl rfl) ?_
    try refine R_top (y := nI _) (by assumption) ?_
    exact R_iret rfl rfl (by first | trivial | exact Or.inl rfl | exact Or.inr rfl | assumption) ⟨rfl, rfl⟩
  · have h2 : ¬ M 9 0 = 0 := h.resolve_left h1
    refine R_iload_n rfl rfl ?_
    refine R_iload_n rfl rfl ?_
    refine R_icF rfl (by first | assumption | exact icF (by decide) | exact ic_F (by omega) (by omega) (by simp only [icN, not_true_eq_false, not_false_eq_true] <;> omega) | exact ic_F0 (by omega) (by simp only [icN, not_true_eq_false, not_false_eq_true] <;> omega)) ?_
    refine R_aload_n rfl rfl ?_
    refine R_getI rfl rfl (Or.inl rfl) ?_
    try refine R_top (y := nI _) (by assumption) ?_
    refine R_ifT (pc' := 48) rfl rfl (h2) ?_
    refine R_aload_n rfl rfl ?_
    refine R_getI rfl rfl (Or.inl rfl) ?_
    try refine R_top (y := nI _) (by assumption) ?_
    exact R_iret rfl rfl (by first | trivial | exact Or.inl rfl | exact Or.inr rfl | assumption) ⟨rfl, rfl⟩
theorem r_run1 {d : Nat} {M M1 M' : Mem} {n i : Nat} {x y : Int32} (h1 : i < n) (hn : n ≤ 20000) (hs : M 9 0 = nI 0) (h : CalR (d + 7) j_X9_oneStep [.ref 0] M (some (.int y)) M1) (nx : WR (CalR (d + 7)) t_X9_run 9 (some .int) (fun v' M2 => v' = some (.int x) ∧ M2 = M') 22 [(2, .int (nI (i + 1))), (0, .ref 0), (1, .int (nI n))] [] (up2 M1 9 0 y)) : WR (CalR (d + 7)) t_X9_run 9 (some .int) (fun v' M2 => v' = some (.int x) ∧ M2 = M') 22 [(2, .int (nI i)), (0, .ref 0), (1, .int (nI n))] [] M := by
  refine R_iload_n rfl rfl ?_
  refine R_iload_n rfl rfl ?_
  refine R_icF rfl (by first | assumption | exact icF (by decide) | exact ic_F (by omega) (by omega) (by simp only [icN, not_true_eq_false, not_false_eq_true] <;> omega) | exact ic_F0 (by omega) (by simp only [icN, not_true_eq_false, not_false_eq_true] <;> omega)) ?_
  refine R_aload_n rfl rfl ?_
  refine R_getI rfl rfl (Or.inl rfl) ?_
  try refine R_top (y := nI _) (by assumption) ?_
  refine R_ifF rfl (by first | assumption | exact icF (by decide) | exact ic_F (by omega) (by omega) (by simp only [icN, not_true_eq_false, not_false_eq_true] <;> omega) | exact ic_F0 (by omega) (by simp only [icN, not_true_eq_false, not_false_eq_true] <;> omega)) ?_
  refine R_aload_n rfl rfl ?_
  refine R_aload_n rfl rfl ?_
  refine R_virt rfl rfl rfl rfl rfl rfl rfl (Nat.le_of_ble_eq_true rfl) (fun _ q => by cases q) (h) ?_
  try refine R_top (y := nI _) (by assumption) ?_
  refine R_put rfl rfl rfl ?_
  refine R_iinc (lv' := [(2, _), (0, _), (1, _)]) rfl rfl (by exact nI_1 _) rfl ?_
  refine R_goto (pc' := 22) rfl rfl ?_
  exact nx
