/-! ===== the reference: what is told of it ===== -/
def tlR (M : Mem) (k : Nat) (y w : Int32) : Int32 := if w = 0 then nI k else if w = 1 then (if k = 2 then M 29 y.toNatClampNeg else y) else -1
theorem r_tell {d : Nat} {M : Mem} {k : Nat} {y w : Int32} (hk : k < 4) (h2 : k = 2 → ∃ i, i < 1500 ∧ y = nI i) (h0 : k = 0 → y = 0) : CalR (d + 1) j_X9_tell [.ref 0, .int (nI k), .int y, .int w] M (some (.int (tlR M k y w))) M := by
  unfold tlR
  by_cases hw0 : w = 0
  · rw [if_pos hw0]
    refine CalR_of (md := md_X9_tell) rfl (Nat.le_of_ble_eq_true rfl) ?_
    show WR (CalR d) t_X9_tell 9 (some .int) _ 0 [(0, .ref 0), (1, .int (nI k)), (2, .int y), (3, .int w)] [] _
    refine R_iload_n rfl rfl ?_
    refine R_ifF rfl (fun q => q hw0) ?_
    refine R_iload_n rfl rfl ?_
    exact R_iret rfl rfl (by first | trivial | exact Or.inl rfl | exact Or.inr rfl | assumption) ⟨rfl, rfl⟩
  · rw [if_neg hw0]
    by_cases hw1 : w = 1
    · rw [if_pos hw1]
      by_cases hk2 : k = 2
      · obtain ⟨i, hi, rfl⟩ := h2 hk2
        subst hk2
        rw [if_pos rfl, nI_clamp (by omega)]
        refine CalR_of (md := md_X9_tell) rfl (Nat.le_of_ble_eq_true rfl) ?_
        show WR (CalR d) t_X9_tell 9 (some .int) _ 0 [(0, .ref 0), (1, .int (nI 2)), (2, .int (nI i)), (3, .int w)] [] _
        refine R_iload_n rfl rfl ?_
        refine R_ifT (pc' := 6) rfl rfl (hw0) ?_
        refine R_iload_n rfl rfl ?_
        refine R_iconst (y := nI 1) rfl (by decide) ?_
        refine R_icT (pc' := 15) rfl rfl (hw1) ?_
        refine R_iload_n rfl rfl ?_
        refine R_iconst (y := nI 2) rfl (by decide) ?_
        refine R_icF rfl (by first | assumption | exact icF (by decide) | exact ic_F (by omega) (by omega) (by simp only [icN, not_true_eq_false, not_false_eq_true] <;> omega) | exact ic_F0 (by omega) (by simp only [icN, not_true_eq_false, not_false_eq_true] <;> omega)) ?_
        refine R_aload_n rfl rfl ?_
        refine R_getA rfl rfl (Or.inl rfl) ?_
        refine R_iload_n rfl rfl ?_
        refine R_iald rfl rfl rfl (show _ < 1500 from by omega) ?_
        try refine R_top (y := nI _) (by assumption) ?_
        refine R_goto (pc' := 38) rfl rfl ?_
        exact R_iret rfl rfl (by first | trivial | exact Or.inl rfl | exact Or.inr rfl | assumption) ⟨rfl, rfl⟩
      · rw [if_neg hk2]
        by_cases hk0 : k = 0
        · have := h0 hk0
          subst this
          subst hk0
          refine CalR_of (md := md_X9_tell) rfl (Nat.le_of_ble_eq_true rfl) ?_
          show WR (CalR d) t_X9_tell 9 (some .int) _ 0 [(0, .ref 0), (1, .int (nI 0)), (2, .int 0), (3, .int w)] [] _
          refine R_iload_n rfl rfl ?_
          refine R_ifT (pc' := 6) rfl rfl (hw0) ?_
          refine R_iload_n rfl rfl ?_
          refine R_iconst (y := nI 1) rfl (by decide) ?_
          refine R_icT (pc' := 15) rfl rfl (hw1) ?_
          refine R_iload_n rfl rfl ?_
          refine R_iconst (y := nI 2) rfl (by decide) ?_
          refine R_icT (pc' := 29) rfl rfl (by first | assumption | exact icT (by decide) | exact ic_T (by omega) (by omega) (by simp only [icN, not_true_eq_false, not_false_eq_true] <;> omega) | exact ic_T0 (by omega) (by simp only [icN, not_true_eq_false, not_false_eq_true] <;> omega)) ?_
          refine R_iload_n rfl rfl ?_
          refine R_ifF rfl (by first | assumption | exact icF (by decide) | exact ic_F (by omega) (by omega) (by simp only [icN, not_true_eq_false, not_false_eq_true] <;> omega) | exact ic_F0 (by omega) (by simp only [icN, not_true_eq_false, not_false_eq_true] <;> omega)) ?_
          refine R_iconst (y := nI 0) rfl (by decide) ?_
          refine R_goto (pc' := 38) rfl rfl ?_
          exact R_iret rfl rfl (by first | trivial | exact Or.inl rfl | exact Or.inr rfl | assumption) ⟨rfl, rfl⟩
        · refine CalR_of (md := md_X9_tell) rfl (Nat.le_of_ble_eq_true rfl) ?_
          show WR (CalR d) t_X9_tell 9 (some .int) _ 0 [(0, .ref 0), (1, .int (nI k)), (2, .int y), (3, .int w)] [] _
          refine R_iload_n rfl rfl ?_
          refine R_ifT (pc' := 6) rfl rfl (hw0) ?_
          refine R_iload_n rfl rfl ?_
          refine R_iconst (y := nI 1) rfl (by decide) ?_
          refine R_icT (pc' := 15) rfl rfl (hw1) ?_
          refine R_iload_n rfl rfl ?_
          refine R_iconst (y := nI 2) rfl (by decide) ?_
          refine R_icT (pc' := 29) rfl rfl (by first | assumption | exact icT (by decide) | exact ic_T (by omega) (by omega) (by simp only [icN, not_true_eq_false, not_false_eq_true] <;> omega) | exact ic_T0 (by omega) (by simp only [icN, not_true_eq_false, not_false_eq_true] <;> omega)) ?_
          refine R_iload_n rfl rfl ?_
          refine R_ifT (pc' := 37) rfl rfl (by first | assumption | exact icT (by decide) | exact ic_T (by omega) (by omega) (by simp only [icN, not_true_eq_false, not_false_eq_true] <;> omega) | exact ic_T0 (by omega) (by simp only [icN, not_true_eq_false, not_false_eq_true] <;> omega)) ?_
          refine R_iload_n rfl rfl ?_
          exact R_iret rfl rfl (by first | trivial | exact Or.inl rfl | exact Or.inr rfl | assumption) ⟨rfl, rfl⟩
    · rw [if_neg hw1]
      refine CalR_of (md := md_X9_tell) rfl (Nat.le_of_ble_eq_true rfl) ?_
      show WR (CalR d) t_X9_tell 9 (some .int) _ 0 [(0, .ref 0), (1, .int (nI k)), (2, .int y), (3, .int w)] [] _
      refine R_iload_n rfl rfl ?_
      refine R_ifT (pc' := 6) rfl rfl (hw0) ?_
      refine R_iload_n rfl rfl ?_
      refine R_iconst (y := nI 1) rfl (by decide) ?_
      refine R_icF rfl (hw1) ?_
      refine R_iconst (y := (-1)) rfl (by decide) ?_
      refine R_goto (pc' := 38) rfl rfl ?_
      exact R_iret rfl rfl (by first | trivial | exact Or.inl rfl | exact Or.inr rfl | assumption) ⟨rfl, rfl⟩
theorem r_pileN {d : Nat} {M : Mem} {x w : Int32} (h : M 7 0 = 0 ∨ x < 0 ∨ M 14 0 ≤ x) : CalR (d + 2) j_X9_pile [.ref 0, .int x, .int w] M (some (.int (-1))) M := by
  by_cases h1 : M 7 0 = 0
  · have h1' : 0 = M 7 0 := h1.symm
    clear h
    refine CalR_of (md := md_X9_pile) (d := d + 1) rfl (Nat.le_of_ble_eq_true rfl) ?_
    show WR (CalR (d + 1)) t_X9_pile 9 (some .int) _ 0 [(0, .ref 0), (1, .int x), (2, .int w)] [] _
    refine R_aload_n rfl rfl ?_
    refine R_getI rfl rfl (Or.inr rfl) ?_
    try refine R_top (y := nI _) (by assumption) ?_
    refine R_ifT (pc' := 19) rfl rfl (by first | assumption | exact icT (by decide) | exact ic_T (by omega) (by omega) (by simp only [icN, not_true_eq_false, not_false_eq_true] <;> omega) | exact ic_T0 (by omega) (by simp only [icN, not_true_eq_false, not_false_eq_true] <;> omega)) ?_
    refine R_iconst (y := (-1)) rfl (by decide) ?_
    exact R_iret rfl rfl (by first | trivial | exact Or.inl rfl | exact Or.inr rfl | assumption) ⟨rfl, rfl⟩
  · by_cases h2 : x < 0
    · refine CalR_of (md := md_X9_pile) (d := d + 1) rfl (Nat.le_of_ble_eq_true rfl) ?_
      show WR (CalR (d + 1)) t_X9_pile 9 (some .int) _ 0 [(0, .ref 0), (1, .int x), (2, .int w)] [] _
      refine R_aload_n rfl rfl ?_
      refine R_getI rfl rfl (Or.inr rfl) ?_
      try refine R_top (y := nI _) (by assumption) ?_
      refine R_ifF rfl (h1) ?_
      refine R_iload_n rfl rfl ?_
      refine R_ifT (pc' := 19) rfl rfl (h2) ?_
      refine R_iconst (y := (-1)) rfl (by decide) ?_
      exact R_iret rfl rfl (by first | trivial | exact Or.inl rfl | exact Or.inr rfl | assumption) ⟨rfl, rfl⟩
    · have h3 : ¬ x < M 14 0 := fun q => by
        rcases h with h | h | h
        · exact h1 h
        · exact h2 h
        · exact absurd q (Int32.not_lt.mpr h)
      refine CalR_of (md := md_X9_pile) (d := d + 1) rfl (Nat.le_of_ble_eq_true rfl) ?_
      show WR (CalR (d + 1)) t_X9_pile 9 (some .int) _ 0 [(0, .ref 0), (1, .int x), (2, .int w)] [] _
      refine R_aload_n rfl rfl ?_
      refine R_getI rfl rfl (Or.inr rfl) ?_
      try refine R_top (y := nI _) (by assumption) ?_
      refine R_ifF rfl (h1) ?_
      refine R_iload_n rfl rfl ?_
      refine R_ifF rfl (h2) ?_
      refine R_iload_n rfl rfl ?_
      refine R_aload_n rfl rfl ?_
      refine R_getI rfl rfl (Or.inl rfl) ?_
      try refine R_top (y := nI _) (by assumption) ?_
      refine R_icF rfl (h3) ?_
      refine R_iconst (y := (-1)) rfl (by decide) ?_
      exact R_iret rfl rfl (by first | trivial | exact Or.inl rfl | exact Or.inr rfl | assumption) ⟨rfl, rfl⟩
theorem r_pile {d : Nat} {M : Mem} {p e k : Nat} {w : Int32} (hl : ¬ M 7 0 = 0) (hp : M 14 0 = nI p) (hp1 : p ≤ 1000) (he : e < p) (hk4 : k < 4) (hk : M 12 (p - 1 - e) = nI k) (h2 : k = 2 → ∃ i, i < 1500 ∧ M 13 (p - 1 - e) = nI i) (h0 : k = 0 → M 13 (p - 1 - e) = 0) : CalR (d + 2) j_X9_pile [.ref 0, .int (nI e), .int w] M (some (.int (tlR M k (M 13 (p - 1 - e)) w))) M := by
  refine CalR_of (md := md_X9_pile) (d := d + 1) rfl (Nat.le_of_ble_eq_true rfl) ?_
  show WR (CalR (d + 1)) t_X9_pile 9 (some .int) _ 0 [(0, .ref 0), (1, .int (nI e)), (2, .int w)] [] _
  refine R_aload_n rfl rfl ?_
  refine R_getI rfl rfl (Or.inr rfl) ?_
  try refine R_top (y := nI _) (by assumption) ?_
  refine R_ifF rfl (hl) ?_
  refine R_iload_n rfl rfl ?_
  refine R_ifF rfl (by first | assumption | exact icF (by decide) | exact ic_F (by omega) (by omega) (by simp only [icN, not_true_eq_false, not_false_eq_true] <;> omega) | exact ic_F0 (by omega) (by simp only [icN, not_true_eq_false, not_false_eq_true] <;> omega)) ?_
  refine R_iload_n rfl rfl ?_
  refine R_aload_n rfl rfl ?_
  refine R_getI rfl rfl (Or.inl rfl) ?_
  try refine R_top (y := nI _) (by assumption) ?_
  refine R_icT (pc' := 21) rfl rfl (by first | assumption | exact icT (by decide) | exact ic_T (by omega) (by omega) (by simp only [icN, not_true_eq_false, not_false_eq_true] <;> omega) | exact ic_T0 (by omega) (by simp only [icN, not_true_eq_false, not_false_eq_true] <;> omega)) ?_
  refine R_aload_n rfl rfl ?_
  refine R_aload_n rfl rfl ?_
  refine R_iload_n rfl rfl ?_
  refine R_virt rfl rfl rfl rfl rfl rfl rfl (Nat.le_of_ble_eq_true rfl) (fun _ q => by cases q) (r_topKind (by first | assumption | rfl) (by omega) (by omega)) ?_
  try refine R_top (y := nI _) (by assumption) ?_
  refine R_aload_n rfl rfl ?_
  refine R_iload_n rfl rfl ?_
  refine R_virt rfl rfl rfl rfl rfl rfl rfl (Nat.le_of_ble_eq_true rfl) (fun _ q => by cases q) (r_topNumber (by first | assumption | rfl) (by omega) (by omega)) ?_
  try refine R_top (y := nI _) (by assumption) ?_
  refine R_iload_n rfl rfl ?_
  refine R_virt rfl rfl rfl rfl rfl rfl rfl (Nat.le_of_ble_eq_true rfl) (fun _ q => by cases q) (r_tell hk4 h2 h0) ?_
  try refine R_top (y := nI _) (by assumption) ?_
  exact R_iret rfl rfl (by first | trivial | exact Or.inl rfl | exact Or.inr rfl | assumption) ⟨rfl, rfl⟩
theorem r_locN {d : Nat} {M : Mem} {f : Nat} {x w : Int32} (hf : M 22 0 = nI f) (hf0 : 0 < f) (hf1 : f ≤ 200) (h : M 7 0 = 0 ∨ x < 0 ∨ (¬ x = nI 16 ∧ M 19 (f - 1) ≤ x)) : CalR (d + 2) j_X9_local_ [.ref 0, .int x, .int w] M (some (.int (-1))) M := by
  by_cases h1 : M 7 0 = 0
  · have h1' : 0 = M 7 0 := h1.symm
    clear h
    refine CalR_of (md := md_X9_local_) (d := d + 1) rfl (Nat.le_of_ble_eq_true rfl) ?_
    show WR (CalR (d + 1)) t_X9_local_ 9 (some .int) _ 0 [(0, .ref 0), (1, .int x), (2, .int w)] [] _
    refine R_aload_n rfl rfl ?_
    refine R_getI rfl rfl (Or.inl rfl) ?_
    try refine R_top (y := nI _) (by assumption) ?_
    refine R_iconst (y := nI 1) rfl (by decide) ?_
    first | refine R_isubN rfl (by omega) ?_ | refine R_isub rfl ?_
    refine R_istore_n (lv' := [(3, _), (0, _), (1, _), (2, _)]) rfl rfl ?_
    refine R_aload_n rfl rfl ?_
    refine R_getI rfl rfl (Or.inr rfl) ?_
    try refine R_top (y := nI _) (by assumption) ?_
    refine R_ifT (pc' := 34) rfl rfl (by first | assumption | exact icT (by decide) | exact ic_T (by omega) (by omega) (by simp only [icN, not_true_eq_false, not_false_eq_true] <;> omega) | exact ic_T0 (by omega) (by simp only [icN, not_true_eq_false, not_false_eq_true] <;> omega)) ?_
    refine R_iconst (y := (-1)) rfl (by decide) ?_
    exact R_iret rfl rfl (by first | trivial | exact Or.inl rfl | exact Or.inr rfl | assumption) ⟨rfl, rfl⟩
  · by_cases h2 : x < 0
    · refine CalR_of (md := md_X9_local_) (d := d + 1) rfl (Nat.le_of_ble_eq_true rfl) ?_
      show WR (CalR (d + 1)) t_X9_local_ 9 (some .int) _ 0 [(0, .ref 0), (1, .int x), (2, .int w)] [] _
      refine R_aload_n rfl rfl ?_
      refine R_getI rfl rfl (Or.inl rfl) ?_
      try refine R_top (y := nI _) (by assumption) ?_
      refine R_iconst (y := nI 1) rfl (by decide) ?_
      first | refine R_isubN rfl (by omega) ?_ | refine R_isub rfl ?_
      refine R_istore_n (lv' := [(3, _), (0, _), (1, _), (2, _)]) rfl rfl ?_
      refine R_aload_n rfl rfl ?_
      refine R_getI rfl rfl (Or.inr rfl) ?_
      try refine R_top (y := nI _) (by assumption) ?_
      refine R_ifF rfl (h1) ?_
      refine R_iload_n rfl rfl ?_
      refine R_ifT (pc' := 34) rfl rfl (h2) ?_
      refine R_iconst (y := (-1)) rfl (by decide) ?_
      exact R_iret rfl rfl (by first | trivial | exact Or.inl rfl | exact Or.inr rfl | assumption) ⟨rfl, rfl⟩
    · have h3 : ¬ x = nI 16 ∧ M 19 (f - 1) ≤ x := by
        rcases h with h | h | h
        · exact absurd h h1
        · exact absurd h h2
        · exact h
      have h4 : ¬ x < M 19 (f - 1) := Int32.not_lt.mpr h3.2
      have h5 := h3.1
      refine CalR_of (md := md_X9_local_) (d := d + 1) rfl (Nat.le_of_ble_eq_true rfl) ?_
      show WR (CalR (d + 1)) t_X9_local_ 9 (some .int) _ 0 [(0, .ref 0), (1, .int x), (2, .int w)] [] _
      refine R_aload_n rfl rfl ?_
      refine R_getI rfl rfl (Or.inl rfl) ?_
      try refine R_top (y := nI _) (by assumption) ?_
      refine R_iconst (y := nI 1) rfl (by decide) ?_
      first | refine R_isubN rfl (by omega) ?_ | refine R_isub rfl ?_
      refine R_istore_n (lv' := [(3, _), (0, _), (1, _), (2, _)]) rfl rfl ?_
      refine R_aload_n rfl rfl ?_
      refine R_getI rfl rfl (Or.inr rfl) ?_
      try refine R_top (y := nI _) (by assumption) ?_
      refine R_ifF rfl (h1) ?_
      refine R_iload_n rfl rfl ?_
      refine R_ifF rfl (h2) ?_
      refine R_iload_n rfl rfl ?_
      refine R_bipush (y := nI 16) rfl (by decide) ?_
      refine R_icF rfl (h5) ?_
      refine R_iload_n rfl rfl ?_
      refine R_aload_n rfl rfl ?_
      refine R_getA rfl rfl (Or.inl rfl) ?_
      refine R_iload_n rfl rfl ?_
      refine R_iald rfl rfl rfl (show _ < 200 from by omega) ?_
      try refine R_top (y := nI _) (by assumption) ?_
      refine R_icF rfl (h4) ?_
      refine R_iconst (y := (-1)) rfl (by decide) ?_
      exact R_iret rfl rfl (by first | trivial | exact Or.inl rfl | exact Or.inr rfl | assumption) ⟨rfl, rfl⟩
theorem r_locS {d : Nat} {M : Mem} {f k : Nat} {w : Int32} (hl : ¬ M 7 0 = 0) (hf : M 22 0 = nI f) (hf0 : 0 < f) (hf1 : f ≤ 200) (hk4 : k < 4) (hk : M 17 (f - 1) = nI k) (h2 : k = 2 → ∃ i, i < 1500 ∧ M 18 (f - 1) = nI i) (h0 : k = 0 → M 18 (f - 1) = 0) : CalR (d + 2) j_X9_local_ [.ref 0, .int (nI 16), .int w] M (some (.int (tlR M k (M 18 (f - 1)) w))) M := by
  refine CalR_of (md := md_X9_local_) (d := d + 1) rfl (Nat.le_of_ble_eq_true rfl) ?_
  show WR (CalR (d + 1)) t_X9_local_ 9 (some .int) _ 0 [(0, .ref 0), (1, .int (nI 16)), (2, .int w)] [] _
  refine R_aload_n rfl rfl ?_
  refine R_getI rfl rfl (Or.inl rfl) ?_
  try refine R_top (y := nI _) (by assumption) ?_
  refine R_iconst (y := nI 1) rfl (by decide) ?_
  first | refine R_isubN rfl (by omega) ?_ | refine R_isub rfl ?_
  refine R_istore_n (lv' := [(3, _), (0, _), (1, _), (2, _)]) rfl rfl ?_
  refine R_aload_n rfl rfl ?_
  refine R_getI rfl rfl (Or.inr rfl) ?_
  try refine R_top (y := nI _) (by assumption) ?_
  refine R_ifF rfl (hl) ?_
  refine R_iload_n rfl rfl ?_
  refine R_ifF rfl (by first | assumption | exact icF (by decide) | exact ic_F (by omega) (by omega) (by simp only [icN, not_true_eq_false, not_false_eq_true] <;> omega) | exact ic_F0 (by omega) (by simp only [icN, not_true_eq_false, not_false_eq_true] <;> omega)) ?_
  refine R_iload_n rfl rfl ?_
  refine R_bipush (y := nI 16) rfl (by decide) ?_
  refine R_icT (pc' := 36) rfl rfl (by first | assumption | exact icT (by decide) | exact ic_T (by omega) (by omega) (by simp only [icN, not_true_eq_false, not_false_eq_true] <;> omega) | exact ic_T0 (by omega) (by simp only [icN, not_true_eq_false, not_false_eq_true] <;> omega)) ?_
  refine R_iload_n rfl rfl ?_
  refine R_bipush (y := nI 16) rfl (by decide) ?_
  refine R_icF rfl (by first | assumption | exact icF (by decide) | exact ic_F (by omega) (by omega) (by simp only [icN, not_true_eq_false, not_false_eq_true] <;> omega) | exact ic_F0 (by omega) (by simp only [icN, not_true_eq_false, not_false_eq_true] <;> omega)) ?_
  refine R_aload_n rfl rfl ?_
  refine R_aload_n rfl rfl ?_
  refine R_getA rfl rfl (Or.inl rfl) ?_
  refine R_iload_n rfl rfl ?_
  refine R_iald rfl rfl rfl (show _ < 200 from by omega) ?_
  try refine R_top (y := nI _) (by assumption) ?_
  refine R_aload_n rfl rfl ?_
  refine R_getA rfl rfl (Or.inl rfl) ?_
  refine R_iload_n rfl rfl ?_
  refine R_iald rfl rfl rfl (show _ < 200 from by omega) ?_
  try refine R_top (y := nI _) (by assumption) ?_
  refine R_iload_n rfl rfl ?_
  refine R_virt rfl rfl rfl rfl rfl rfl rfl (Nat.le_of_ble_eq_true rfl) (fun _ q => by cases q) (r_tell hk4 h2 h0) ?_
  try refine R_top (y := nI _) (by assumption) ?_
  refine R_goto (pc' := 89) rfl rfl ?_
  exact R_iret rfl rfl (by first | trivial | exact Or.inl rfl | exact Or.inr rfl | assumption) ⟨rfl, rfl⟩
theorem r_locL {d : Nat} {M : Mem} {f m e k : Nat} {w : Int32} (hl : ¬ M 7 0 = 0) (hf : M 22 0 = nI f) (hf0 : 0 < f) (hf1 : f ≤ 200) (hm : M 19 (f - 1) = nI m) (hm1 : m ≤ 16) (he : e < m) (hk4 : k < 4) (hk : M 20 (16 * (f - 1) + e) = nI k) (h2 : k = 2 → ∃ i, i < 1500 ∧ M 21 (16 * (f - 1) + e) = nI i) (h0 : k = 0 → M 21 (16 * (f - 1) + e) = 0) : CalR (d + 2) j_X9_local_ [.ref 0, .int (nI e), .int w] M (some (.int (tlR M k (M 21 (16 * (f - 1) + e)) w))) M := by
  refine CalR_of (md := md_X9_local_) (d := d + 1) rfl (Nat.le_of_ble_eq_true rfl) ?_
  show WR (CalR (d + 1)) t_X9_local_ 9 (some .int) _ 0 [(0, .ref 0), (1, .int (nI e)), (2, .int w)] [] _
  refine R_aload_n rfl rfl ?_
  refine R_getI rfl rfl (Or.inl rfl) ?_
  try refine R_top (y := nI _) (by assumption) ?_
  refine R_iconst (y := nI 1) rfl (by decide) ?_
  first | refine R_isubN rfl (by omega) ?_ | refine R_isub rfl ?_
  refine R_istore_n (lv' := [(3, _), (0, _), (1, _), (2, _)]) rfl rfl ?_
  refine R_aload_n rfl rfl ?_
  refine R_getI rfl rfl (Or.inr rfl) ?_
  try refine R_top (y := nI _) (by assumption) ?_
  refine R_ifF rfl (hl) ?_
  refine R_iload_n rfl rfl ?_
  refine R_ifF rfl (by first | assumption | exact icF (by decide) | exact ic_F (by omega) (by omega) (by simp only [icN, not_true_eq_false, not_false_eq_true] <;> omega) | exact ic_F0 (by omega) (by simp only [icN, not_true_eq_false, not_false_eq_true] <;> omega)) ?_
  refine R_iload_n rfl rfl ?_
  refine R_bipush (y := nI 16) rfl (by decide) ?_
  refine R_icF rfl (by first | assumption | exact icF (by decide) | exact ic_F (by omega) (by omega) (by simp only [icN, not_true_eq_false, not_false_eq_true] <;> omega) | exact ic_F0 (by omega) (by simp only [icN, not_true_eq_false, not_false_eq_true] <;> omega)) ?_
  refine R_iload_n rfl rfl ?_
  refine R_aload_n rfl rfl ?_
  refine R_getA rfl rfl (Or.inl rfl) ?_
  refine R_iload_n rfl rfl ?_
  refine R_iald rfl rfl rfl (show _ < 200 from by omega) ?_
  try refine R_top (y := nI _) (by assumption) ?_
  refine R_icT (pc' := 36) rfl rfl (by first | assumption | exact icT (by decide) | exact ic_T (by omega) (by omega) (by simp only [icN, not_true_eq_false, not_false_eq_true] <;> omega) | exact ic_T0 (by omega) (by simp only [icN, not_true_eq_false, not_false_eq_true] <;> omega)) ?_
  refine R_iload_n rfl rfl ?_
  refine R_bipush (y := nI 16) rfl (by decide) ?_
  refine R_icT (pc' := 62) rfl rfl (by first | assumption | exact icT (by decide) | exact ic_T (by omega) (by omega) (by simp only [icN, not_true_eq_false, not_false_eq_true] <;> omega) | exact ic_T0 (by omega) (by simp only [icN, not_true_eq_false, not_false_eq_true] <;> omega)) ?_
  refine R_aload_n rfl rfl ?_
  refine R_aload_n rfl rfl ?_
  refine R_getA rfl rfl (Or.inl rfl) ?_
  refine R_bipush (y := nI 16) rfl (by decide) ?_
  refine R_iload_n rfl rfl ?_
  first | refine R_imulN rfl ?_ | refine R_imul rfl ?_
  refine R_iload_n rfl rfl ?_
  first | refine R_iaddN rfl ?_ | refine R_iadd rfl ?_
  refine R_iald rfl rfl rfl (show _ < 3200 from by omega) ?_
  try refine R_top (y := nI _) (by assumption) ?_
  refine R_aload_n rfl rfl ?_
  refine R_getA rfl rfl (Or.inl rfl) ?_
  refine R_bipush (y := nI 16) rfl (by decide) ?_
  refine R_iload_n rfl rfl ?_
  first | refine R_imulN rfl ?_ | refine R_imul rfl ?_
  refine R_iload_n rfl rfl ?_
  first | refine R_iaddN rfl ?_ | refine R_iadd rfl ?_
  refine R_iald rfl rfl rfl (show _ < 3200 from by omega) ?_
  try refine R_top (y := nI _) (by assumption) ?_
  refine R_iload_n rfl rfl ?_
  refine R_virt rfl rfl rfl rfl rfl rfl rfl (Nat.le_of_ble_eq_true rfl) (fun _ q => by cases q) (r_tell hk4 h2 h0) ?_
  try refine R_top (y := nI _) (by assumption) ?_
  exact R_iret rfl rfl (by first | trivial | exact Or.inl rfl | exact Or.inr rfl | assumption) ⟨rfl, rfl⟩
theorem r_placeN {d : Nat} {M : Mem} {x : Int32} (h : ∀ i, i < 1500 → ¬ M 29 i = x) : CalR (d + 1) j_X9_placeOf [.ref 0, .int x] M (some (.int (-1))) M := by
  refine CalR_of (md := md_X9_placeOf) rfl (Nat.le_of_ble_eq_true rfl) ?_
  show WR (CalR d) t_X9_placeOf 9 (some .int) _ 0 [(0, .ref 0), (1, .int x)] [] _
  refine R_iconst (y := nI 0) rfl (by decide) ?_
  refine R_istore_n (lv' := [(2, _), (0, _), (1, _)]) rfl rfl ?_
  refine dn_up (P := fun s => WR (CalR d) t_X9_placeOf 9 (some .int) (fun v' M' => v' = some (.int (-1)) ∧ M' = M) 2 [(2, .int (nI s)), (0, .ref 0), (1, .int x)] [] M) (N := 1500) ?_ ?_ 0 (by omega)
  · refine R_iload_n rfl rfl ?_
    refine R_sipush (y := nI 1500) rfl (by decide) ?_
    refine R_icT (pc' := 27) rfl rfl (by first | assumption | exact icT (by decide) | exact ic_T (by omega) (by omega) (by simp only [icN, not_true_eq_false, not_false_eq_true] <;> omega) | exact ic_T0 (by omega) (by simp only [icN, not_true_eq_false, not_false_eq_true] <;> omega)) ?_
    refine R_iconst (y := (-1)) rfl (by decide) ?_
    exact R_iret rfl rfl (by first | trivial | exact Or.inl rfl | exact Or.inr rfl | assumption) ⟨rfl, rfl⟩
  · intro s hs nx
    have hh := h s hs
    refine R_iload_n rfl rfl ?_
    refine R_sipush (y := nI 1500) rfl (by decide) ?_
    refine R_icF rfl (by first | assumption | exact icF (by decide) | exact ic_F (by omega) (by omega) (by simp only [icN, not_true_eq_false, not_false_eq_true] <;> omega) | exact ic_F0 (by omega) (by simp only [icN, not_true_eq_false, not_false_eq_true] <;> omega)) ?_
    refine R_aload_n rfl rfl ?_
    refine R_getA rfl rfl (Or.inl rfl) ?_
    refine R_iload_n rfl rfl ?_
    refine R_iald rfl rfl rfl (show _ < 1500 from by omega) ?_
    try refine R_top (y := nI _) (by assumption) ?_
    refine R_iload_n rfl rfl ?_
    refine R_icT (pc' := 21) rfl rfl (hh) ?_
    refine R_iinc (lv' := [(2, _), (0, _), (1, _)]) rfl rfl (by exact nI_1 _) rfl ?_
    refine R_goto (pc' := 2) rfl rfl ?_
    exact nx
theorem r_placeOf {d : Nat} {M : Mem} {x : Int32} {i0 : Nat} (h0 : i0 < 1500) (he : M 29 i0 = x) (h : ∀ i, i < i0 → ¬ M 29 i = x) : CalR (d + 1) j_X9_placeOf [.ref 0, .int x] M (some (.int (nI i0))) M := by
  refine CalR_of (md := md_X9_placeOf) rfl (Nat.le_of_ble_eq_true rfl) ?_
  show WR (CalR d) t_X9_placeOf 9 (some .int) _ 0 [(0, .ref 0), (1, .int x)] [] _
  refine R_iconst (y := nI 0) rfl (by decide) ?_
  refine R_istore_n (lv' := [(2, _), (0, _), (1, _)]) rfl rfl ?_
  refine dn_up (P := fun s => WR (CalR d) t_X9_placeOf 9 (some .int) (fun v' M' => v' = some (.int (nI i0)) ∧ M' = M) 2 [(2, .int (nI s)), (0, .ref 0), (1, .int x)] [] M) (N := i0) ?_ ?_ 0 (by omega)
  · refine R_iload_n rfl rfl ?_
    refine R_sipush (y := nI 1500) rfl (by decide) ?_
    refine R_icF rfl (by first | assumption | exact icF (by decide) | exact ic_F (by omega) (by omega) (by simp only [icN, not_true_eq_false, not_false_eq_true] <;> omega) | exact ic_F0 (by omega) (by simp only [icN, not_true_eq_false, not_false_eq_true] <;> omega)) ?_
    refine R_aload_n rfl rfl ?_
    refine R_getA rfl rfl (Or.inl rfl) ?_
    refine R_iload_n rfl rfl ?_
    refine R_iald rfl rfl rfl (show _ < 1500 from by omega) ?_
    try refine R_top (y := nI _) (by assumption) ?_
    refine R_iload_n rfl rfl ?_
    refine R_icF rfl (fun q => q he) ?_
    refine R_iload_n rfl rfl ?_
    exact R_iret rfl rfl (by first | trivial | exact Or.inl rfl | exact Or.inr rfl | assumption) ⟨rfl, rfl⟩
  · intro s hs nx
    have hh := h s hs
    refine R_iload_n rfl rfl ?_
    refine R_sipush (y := nI 1500) rfl (by decide) ?_
    refine R_icF rfl (by first | assumption | exact icF (by decide) | exact ic_F (by omega) (by omega) (by simp only [icN, not_true_eq_false, not_false_eq_true] <;> omega) | exact ic_F0 (by omega) (by simp only [icN, not_true_eq_false, not_false_eq_true] <;> omega)) ?_
    refine R_aload_n rfl rfl ?_
    refine R_getA rfl rfl (Or.inl rfl) ?_
    refine R_iload_n rfl rfl ?_
    refine R_iald rfl rfl rfl (show _ < 1500 from by omega) ?_
    try refine R_top (y := nI _) (by assumption) ?_
    refine R_iload_n rfl rfl ?_
    refine R_icT (pc' := 21) rfl rfl (hh) ?_
    refine R_iinc (lv' := [(2, _), (0, _), (1, _)]) rfl rfl (by exact nI_1 _) rfl ?_
    refine R_goto (pc' := 2) rfl rfl ?_
    exact nx
theorem r_objN {d : Nat} {M : Mem} {x w : Int32} (h : M 7 0 = 0 ∨ x < nI 1 ∨ M 40 0 < x) : CalR (d + 2) j_X9_object [.ref 0, .int x, .int w] M (some (.int (-1))) M := by
  by_cases h1 : M 7 0 = 0
  · have h1' : 0 = M 7 0 := h1.symm
    clear h
    refine CalR_of (md := md_X9_object) (d := d + 1) rfl (Nat.le_of_ble_eq_true rfl) ?_
    show WR (CalR (d + 1)) t_X9_object 9 (some .int) _ 0 [(0, .ref 0), (1, .int x), (2, .int w)] [] _
    refine R_aload_n rfl rfl ?_
    refine R_getI rfl rfl (Or.inr rfl) ?_
    try refine R_top (y := nI _) (by assumption) ?_
    refine R_ifT (pc' := 20) rfl rfl (by first | assumption | exact icT (by decide) | exact ic_T (by omega) (by omega) (by simp only [icN, not_true_eq_false, not_false_eq_true] <;> omega) | exact ic_T0 (by omega) (by simp only [icN, not_true_eq_false, not_false_eq_true] <;> omega)) ?_
    refine R_iconst (y := (-1)) rfl (by decide) ?_
    exact R_iret rfl rfl (by first | trivial | exact Or.inl rfl | exact Or.inr rfl | assumption) ⟨rfl, rfl⟩
  · by_cases h2 : x < nI 1
    · refine CalR_of (md := md_X9_object) (d := d + 1) rfl (Nat.le_of_ble_eq_true rfl) ?_
      show WR (CalR (d + 1)) t_X9_object 9 (some .int) _ 0 [(0, .ref 0), (1, .int x), (2, .int w)] [] _
      refine R_aload_n rfl rfl ?_
      refine R_getI rfl rfl (Or.inr rfl) ?_
      try refine R_top (y := nI _) (by assumption) ?_
      refine R_ifF rfl (h1) ?_
      refine R_iload_n rfl rfl ?_
      refine R_iconst (y := nI 1) rfl (by decide) ?_
      refine R_icT (pc' := 20) rfl rfl (h2) ?_
      refine R_iconst (y := (-1)) rfl (by decide) ?_
      exact R_iret rfl rfl (by first | trivial | exact Or.inl rfl | exact Or.inr rfl | assumption) ⟨rfl, rfl⟩
    · have h3 : ¬ x ≤ M 40 0 := fun q => by
        rcases h with h | h | h
        · exact h1 h
        · exact h2 h
        · exact absurd h (Int32.not_lt.mpr q)
      refine CalR_of (md := md_X9_object) (d := d + 1) rfl (Nat.le_of_ble_eq_true rfl) ?_
      show WR (CalR (d + 1)) t_X9_object 9 (some .int) _ 0 [(0, .ref 0), (1, .int x), (2, .int w)] [] _
      refine R_aload_n rfl rfl ?_
      refine R_getI rfl rfl (Or.inr rfl) ?_
      try refine R_top (y := nI _) (by assumption) ?_
      refine R_ifF rfl (h1) ?_
      refine R_iload_n rfl rfl ?_
      refine R_iconst (y := nI 1) rfl (by decide) ?_
      refine R_icF rfl (h2) ?_
      refine R_iload_n rfl rfl ?_
      refine R_aload_n rfl rfl ?_
      refine R_getI rfl rfl (Or.inl rfl) ?_
      try refine R_top (y := nI _) (by assumption) ?_
      refine R_icF rfl (h3) ?_
      refine R_iconst (y := (-1)) rfl (by decide) ?_
      exact R_iret rfl rfl (by first | trivial | exact Or.inl rfl | exact Or.inr rfl | assumption) ⟨rfl, rfl⟩
theorem r_objF {d : Nat} {M : Mem} {x w : Int32} (hl : ¬ M 7 0 = 0) (h1 : ¬ x < nI 1) (h2 : x ≤ M 40 0) (h : ∀ i, i < 1500 → ¬ M 29 i = x) : CalR (d + 2) j_X9_object [.ref 0, .int x, .int w] M (some (.int (if w = 0 then nI 2 else -1))) M := by
  by_cases hw : w = 0
  · rw [if_pos hw]
    refine CalR_of (md := md_X9_object) (d := d + 1) rfl (Nat.le_of_ble_eq_true rfl) ?_
    show WR (CalR (d + 1)) t_X9_object 9 (some .int) _ 0 [(0, .ref 0), (1, .int x), (2, .int w)] [] _
    refine R_aload_n rfl rfl ?_
    refine R_getI rfl rfl (Or.inr rfl) ?_
    try refine R_top (y := nI _) (by assumption) ?_
    refine R_ifF rfl (hl) ?_
    refine R_iload_n rfl rfl ?_
    refine R_iconst (y := nI 1) rfl (by decide) ?_
    refine R_icF rfl (h1) ?_
    refine R_iload_n rfl rfl ?_
    refine R_aload_n rfl rfl ?_
    refine R_getI rfl rfl (Or.inl rfl) ?_
    try refine R_top (y := nI _) (by assumption) ?_
    refine R_icT (pc' := 22) rfl rfl (h2) ?_
    refine R_aload_n rfl rfl ?_
    refine R_iload_n rfl rfl ?_
    refine R_virt rfl rfl rfl rfl rfl rfl rfl (Nat.le_of_ble_eq_true rfl) (fun _ q => by cases q) (r_placeN h) ?_
    try refine R_top (y := nI _) (by assumption) ?_
    refine R_istore_n (lv' := [(3, _), (0, _), (1, _), (2, _)]) rfl rfl ?_
    refine R_iload_n rfl rfl ?_
    refine R_ifF rfl (by first | assumption | exact icF (by decide) | exact ic_F (by omega) (by omega) (by simp only [icN, not_true_eq_false, not_false_eq_true] <;> omega) | exact ic_F0 (by omega) (by simp only [icN, not_true_eq_false, not_false_eq_true] <;> omega)) ?_
    refine R_iload_n rfl rfl ?_
    refine R_ifF rfl (fun q => q hw) ?_
    refine R_iconst (y := nI 2) rfl (by decide) ?_
    refine R_goto (pc' := 41) rfl rfl ?_
    exact R_iret rfl rfl (by first | trivial | exact Or.inl rfl | exact Or.inr rfl | assumption) ⟨rfl, rfl⟩
  · rw [if_neg hw]
    refine CalR_of (md := md_X9_object) (d := d + 1) rfl (Nat.le_of_ble_eq_true rfl) ?_
    show WR (CalR (d + 1)) t_X9_object 9 (some .int) _ 0 [(0, .ref 0), (1, .int x), (2, .int w)] [] _
    refine R_aload_n rfl rfl ?_
    refine R_getI rfl rfl (Or.inr rfl) ?_
    try refine R_top (y := nI _) (by assumption) ?_
    refine R_ifF rfl (hl) ?_
    refine R_iload_n rfl rfl ?_
    refine R_iconst (y := nI 1) rfl (by decide) ?_
    refine R_icF rfl (h1) ?_
    refine R_iload_n rfl rfl ?_
    refine R_aload_n rfl rfl ?_
    refine R_getI rfl rfl (Or.inl rfl) ?_
    try refine R_top (y := nI _) (by assumption) ?_
    refine R_icT (pc' := 22) rfl rfl (h2) ?_
    refine R_aload_n rfl rfl ?_
    refine R_iload_n rfl rfl ?_
    refine R_virt rfl rfl rfl rfl rfl rfl rfl (Nat.le_of_ble_eq_true rfl) (fun _ q => by cases q) (r_placeN h) ?_
    try refine R_top (y := nI _) (by assumption) ?_
    refine R_istore_n (lv' := [(3, _), (0, _), (1, _), (2, _)]) rfl rfl ?_
    refine R_iload_n rfl rfl ?_
    refine R_ifF rfl (by first | assumption | exact icF (by decide) | exact ic_F (by omega) (by omega) (by simp only [icN, not_true_eq_false, not_false_eq_true] <;> omega) | exact ic_F0 (by omega) (by simp only [icN, not_true_eq_false, not_false_eq_true] <;> omega)) ?_
    refine R_iload_n rfl rfl ?_
    refine R_ifT (pc' := 40) rfl rfl (hw) ?_
    refine R_iconst (y := (-1)) rfl (by decide) ?_
    exact R_iret rfl rfl (by first | trivial | exact Or.inl rfl | exact Or.inr rfl | assumption) ⟨rfl, rfl⟩
theorem swt_out {df lo hi : Int} {offs : Array Int} {x : Int} (h : x < lo ∨ hi < x) : swt df lo hi offs x = df := if_pos h
def obR (M : Mem) (i n : Nat) (w : Int32) : Int32 := if w = 0 then (if M 30 i = 0 then nI 0 else nI 1) else if w = 1 then nI (3 + n) else if w = 2 then nI n else if w = 3 then serA M (M 31 i) else if w = 4 then M 33 i else -1
theorem i32_cases (w : Int32) (n : Nat) (hn : n < 2 ^ 31) : (∃ k, k ≤ n ∧ w = nI k) ∨ w.toInt < 0 ∨ (n : Int) < w.toInt := by
  by_cases h : w < 0
  · refine Or.inr (Or.inl ?_)
    have := Int32.lt_iff_toInt_lt.mp h
    exact this
  · obtain ⟨j, hj, rfl⟩ := nI_of h
    by_cases hjn : j ≤ n
    · exact Or.inl ⟨j, hjn, rfl⟩
    · refine Or.inr (Or.inr ?_)
      rw [nI_toInt hj]
      omega
theorem r_obj {d : Nat} {M : Mem} {i n : Nat} {x w : Int32} (hl : ¬ M 7 0 = 0) (h1 : ¬ x < nI 1) (h2 : x ≤ M 40 0) (hi : i < 1500) (he : M 29 i = x) (h : ∀ j, j < i → ¬ M 29 j = x) (hn : M 32 i = nI n) (hpi : M 31 i = -1 ∨ ∃ j, j < 1500 ∧ M 31 i = nI j) : CalR (d + 2) j_X9_object [.ref 0, .int x, .int w] M (some (.int (obR M i n w))) M := by
  rcases i32_cases w 4 (by decide) with ⟨k, hk, rfl⟩ | hout
  · have hk5 : k = 0 ∨ k = 1 ∨ k = 2 ∨ k = 3 ∨ k = 4 := by omega
    rcases hk5 with rfl | rfl | rfl | rfl | rfl
    · by_cases h0 : M 30 i = 0
      · have e : obR M i n (nI 0) = nI 0 := by unfold obR; rw [if_pos (by decide), if_pos h0]
        rw [e]
        refine CalR_of (md := md_X9_object) (d := d + 1) rfl (Nat.le_of_ble_eq_true rfl) ?_
        show WR (CalR (d + 1)) t_X9_object 9 (some .int) _ 0 [(0, .ref 0), (1, .int x), (2, .int (nI 0))] [] _
        refine R_aload_n rfl rfl ?_
        refine R_getI rfl rfl (Or.inr rfl) ?_
        try refine R_top (y := nI _) (by assumption) ?_
        refine R_ifF rfl (hl) ?_
        refine R_iload_n rfl rfl ?_
        refine R_iconst (y := nI 1) rfl (by decide) ?_
        refine R_icF rfl (h1) ?_
        refine R_iload_n rfl rfl ?_
        refine R_aload_n rfl rfl ?_
        refine R_getI rfl rfl (Or.inl rfl) ?_
        try refine R_top (y := nI _) (by assumption) ?_
        refine R_icT (pc' := 22) rfl rfl (h2) ?_
        refine R_aload_n rfl rfl ?_
        refine R_iload_n rfl rfl ?_
        refine R_virt rfl rfl rfl rfl rfl rfl rfl (Nat.le_of_ble_eq_true rfl) (fun _ q => by cases q) (r_placeOf hi he h) ?_
        try refine R_top (y := nI _) (by assumption) ?_
        refine R_istore_n (lv' := [(3, _), (0, _), (1, _), (2, _)]) rfl rfl ?_
        refine R_iload_n rfl rfl ?_
        refine R_ifT (pc' := 42) rfl rfl (by first | assumption | exact icT (by decide) | exact ic_T (by omega) (by omega) (by simp only [icN, not_true_eq_false, not_false_eq_true] <;> omega) | exact ic_T0 (by omega) (by simp only [icN, not_true_eq_false, not_false_eq_true] <;> omega)) ?_
        refine R_iload_n rfl rfl ?_
        refine R_table (pc' := 76) rfl (by decide) ?_
        refine R_aload_n rfl rfl ?_
        refine R_getA rfl rfl (Or.inr rfl) ?_
        refine R_iload_n rfl rfl ?_
        refine R_bald rfl rfl rfl (show _ < 1500 from by omega) ?_
        try refine R_top (y := nI _) (by assumption) ?_
        refine R_ifT (pc' := 89) rfl rfl (by first | assumption | exact icT (by decide) | exact ic_T (by omega) (by omega) (by simp only [icN, not_true_eq_false, not_false_eq_true] <;> omega) | exact ic_T0 (by omega) (by simp only [icN, not_true_eq_false, not_false_eq_true] <;> omega)) ?_
        refine R_iconst (y := nI 0) rfl (by decide) ?_
        exact R_iret rfl rfl (by first | trivial | exact Or.inl rfl | exact Or.inr rfl | assumption) ⟨rfl, rfl⟩
      · have e : obR M i n (nI 0) = nI 1 := by unfold obR; rw [if_pos (by decide), if_neg h0]
        rw [e]
        refine CalR_of (md := md_X9_object) (d := d + 1) rfl (Nat.le_of_ble_eq_true rfl) ?_
        show WR (CalR (d + 1)) t_X9_object 9 (some .int) _ 0 [(0, .ref 0), (1, .int x), (2, .int (nI 0))] [] _
        refine R_aload_n rfl rfl ?_
        refine R_getI rfl rfl (Or.inr rfl) ?_
        try refine R_top (y := nI _) (by assumption) ?_
        refine R_ifF rfl (hl) ?_
        refine R_iload_n rfl rfl ?_
        refine R_iconst (y := nI 1) rfl (by decide) ?_
        refine R_icF rfl (h1) ?_
        refine R_iload_n rfl rfl ?_
        refine R_aload_n rfl rfl ?_
        refine R_getI rfl rfl (Or.inl rfl) ?_
        try refine R_top (y := nI _) (by assumption) ?_
        refine R_icT (pc' := 22) rfl rfl (h2) ?_
        refine R_aload_n rfl rfl ?_
        refine R_iload_n rfl rfl ?_
        refine R_virt rfl rfl rfl rfl rfl rfl rfl (Nat.le_of_ble_eq_true rfl) (fun _ q => by cases q) (r_placeOf hi he h) ?_
        try refine R_top (y := nI _) (by assumption) ?_
        refine R_istore_n (lv' := [(3, _), (0, _), (1, _), (2, _)]) rfl rfl ?_
        refine R_iload_n rfl rfl ?_
        refine R_ifT (pc' := 42) rfl rfl (by first | assumption | exact icT (by decide) | exact ic_T (by omega) (by omega) (by simp only [icN, not_true_eq_false, not_false_eq_true] <;> omega) | exact ic_T0 (by omega) (by simp only [icN, not_true_eq_false, not_false_eq_true] <;> omega)) ?_
        refine R_iload_n rfl rfl ?_
        refine R_table (pc' := 76) rfl (by decide) ?_
        refine R_aload_n rfl rfl ?_
        refine R_getA rfl rfl (Or.inr rfl) ?_
        refine R_iload_n rfl rfl ?_
        refine R_bald rfl rfl rfl (show _ < 1500 from by omega) ?_
        try refine R_top (y := nI _) (by assumption) ?_
        refine R_ifF rfl (h0) ?_
        refine R_iconst (y := nI 1) rfl (by decide) ?_
        refine R_goto (pc' := 90) rfl rfl ?_
        exact R_iret rfl rfl (by first | trivial | exact Or.inl rfl | exact Or.inr rfl | assumption) ⟨rfl, rfl⟩
    · have e : obR M i n (nI 1) = nI (3 + n) := by unfold obR; rw [if_neg (by decide), if_pos (by decide)]
      rw [e]
      refine CalR_of (md := md_X9_object) (d := d + 1) rfl (Nat.le_of_ble_eq_true rfl) ?_
      show WR (CalR (d + 1)) t_X9_object 9 (some .int) _ 0 [(0, .ref 0), (1, .int x), (2, .int (nI 1))] [] _
      refine R_aload_n rfl rfl ?_
      refine R_getI rfl rfl (Or.inr rfl) ?_
      try refine R_top (y := nI _) (by assumption) ?_
      refine R_ifF rfl (hl) ?_
      refine R_iload_n rfl rfl ?_
      refine R_iconst (y := nI 1) rfl (by decide) ?_
      refine R_icF rfl (h1) ?_
      refine R_iload_n rfl rfl ?_
      refine R_aload_n rfl rfl ?_
      refine R_getI rfl rfl (Or.inl rfl) ?_
      try refine R_top (y := nI _) (by assumption) ?_
      refine R_icT (pc' := 22) rfl rfl (h2) ?_
      refine R_aload_n rfl rfl ?_
      refine R_iload_n rfl rfl ?_
      refine R_virt rfl rfl rfl rfl rfl rfl rfl (Nat.le_of_ble_eq_true rfl) (fun _ q => by cases q) (r_placeOf hi he h) ?_
      try refine R_top (y := nI _) (by assumption) ?_
      refine R_istore_n (lv' := [(3, _), (0, _), (1, _), (2, _)]) rfl rfl ?_
      refine R_iload_n rfl rfl ?_
      refine R_ifT (pc' := 42) rfl rfl (by first | assumption | exact icT (by decide) | exact ic_T (by omega) (by omega) (by simp only [icN, not_true_eq_false, not_false_eq_true] <;> omega) | exact ic_T0 (by omega) (by simp only [icN, not_true_eq_false, not_false_eq_true] <;> omega)) ?_
      refine R_iload_n rfl rfl ?_
      refine R_table (pc' := 91) rfl (by decide) ?_
      refine R_aload_n rfl rfl ?_
      refine R_iload_n rfl rfl ?_
      refine R_virt rfl rfl rfl rfl rfl rfl rfl (Nat.le_of_ble_eq_true rfl) (fun _ q => by cases q) (r_sizeOf hi hn) ?_
      try refine R_top (y := nI _) (by assumption) ?_
      exact R_iret rfl rfl (by first | trivial | exact Or.inl rfl | exact Or.inr rfl | assumption) ⟨rfl, rfl⟩
    · have e : obR M i n (nI 2) = nI n := by unfold obR; rw [if_neg (by decide), if_neg (by decide), if_pos (by decide)]
      rw [e]
      refine CalR_of (md := md_X9_object) (d := d + 1) rfl (Nat.le_of_ble_eq_true rfl) ?_
      show WR (CalR (d + 1)) t_X9_object 9 (some .int) _ 0 [(0, .ref 0), (1, .int x), (2, .int (nI 2))] [] _
      refine R_aload_n rfl rfl ?_
      refine R_getI rfl rfl (Or.inr rfl) ?_
      try refine R_top (y := nI _) (by assumption) ?_
      refine R_ifF rfl (hl) ?_
      refine R_iload_n rfl rfl ?_
      refine R_iconst (y := nI 1) rfl (by decide) ?_
      refine R_icF rfl (h1) ?_
      refine R_iload_n rfl rfl ?_
      refine R_aload_n rfl rfl ?_
      refine R_getI rfl rfl (Or.inl rfl) ?_
      try refine R_top (y := nI _) (by assumption) ?_
      refine R_icT (pc' := 22) rfl rfl (h2) ?_
      refine R_aload_n rfl rfl ?_
      refine R_iload_n rfl rfl ?_
      refine R_virt rfl rfl rfl rfl rfl rfl rfl (Nat.le_of_ble_eq_true rfl) (fun _ q => by cases q) (r_placeOf hi he h) ?_
      try refine R_top (y := nI _) (by assumption) ?_
      refine R_istore_n (lv' := [(3, _), (0, _), (1, _), (2, _)]) rfl rfl ?_
      refine R_iload_n rfl rfl ?_
      refine R_ifT (pc' := 42) rfl rfl (by first | assumption | exact icT (by decide) | exact ic_T (by omega) (by omega) (by simp only [icN, not_true_eq_false, not_false_eq_true] <;> omega) | exact ic_T0 (by omega) (by simp only [icN, not_true_eq_false, not_false_eq_true] <;> omega)) ?_
      refine R_iload_n rfl rfl ?_
      refine R_table (pc' := 97) rfl (by decide) ?_
      refine R_aload_n rfl rfl ?_
      refine R_getA rfl rfl (Or.inl rfl) ?_
      refine R_iload_n rfl rfl ?_
      refine R_iald rfl rfl rfl (show _ < 1500 from by omega) ?_
      try refine R_top (y := nI _) (by assumption) ?_
      exact R_iret rfl rfl (by first | trivial | exact Or.inl rfl | exact Or.inr rfl | assumption) ⟨rfl, rfl⟩
    · have e : obR M i n (nI 3) = serA M (M 31 i) := by unfold obR; rw [if_neg (by decide), if_neg (by decide), if_neg (by decide), if_pos (by decide)]
      rw [e]
      refine CalR_of (md := md_X9_object) (d := d + 1) rfl (Nat.le_of_ble_eq_true rfl) ?_
      show WR (CalR (d + 1)) t_X9_object 9 (some .int) _ 0 [(0, .ref 0), (1, .int x), (2, .int (nI 3))] [] _
      refine R_aload_n rfl rfl ?_
      refine R_getI rfl rfl (Or.inr rfl) ?_
      try refine R_top (y := nI _) (by assumption) ?_
      refine R_ifF rfl (hl) ?_
      refine R_iload_n rfl rfl ?_
      refine R_iconst (y := nI 1) rfl (by decide) ?_
      refine R_icF rfl (h1) ?_
      refine R_iload_n rfl rfl ?_
      refine R_aload_n rfl rfl ?_
      refine R_getI rfl rfl (Or.inl rfl) ?_
      try refine R_top (y := nI _) (by assumption) ?_
      refine R_icT (pc' := 22) rfl rfl (h2) ?_
      refine R_aload_n rfl rfl ?_
      refine R_iload_n rfl rfl ?_
      refine R_virt rfl rfl rfl rfl rfl rfl rfl (Nat.le_of_ble_eq_true rfl) (fun _ q => by cases q) (r_placeOf hi he h) ?_
      try refine R_top (y := nI _) (by assumption) ?_
      refine R_istore_n (lv' := [(3, _), (0, _), (1, _), (2, _)]) rfl rfl ?_
      refine R_iload_n rfl rfl ?_
      refine R_ifT (pc' := 42) rfl rfl (by first | assumption | exact icT (by decide) | exact ic_T (by omega) (by omega) (by simp only [icN, not_true_eq_false, not_false_eq_true] <;> omega) | exact ic_T0 (by omega) (by simp only [icN, not_true_eq_false, not_false_eq_true] <;> omega)) ?_
      refine R_iload_n rfl rfl ?_
      refine R_table (pc' := 104) rfl (by decide) ?_
      refine R_aload_n rfl rfl ?_
      refine R_aload_n rfl rfl ?_
      refine R_getA rfl rfl (Or.inl rfl) ?_
      refine R_iload_n rfl rfl ?_
      refine R_iald rfl rfl rfl (show _ < 1500 from by omega) ?_
      try refine R_top (y := nI _) (by assumption) ?_
      refine R_virt rfl rfl rfl rfl rfl rfl rfl (Nat.le_of_ble_eq_true rfl) (fun _ q => by cases q) (r_ser hpi) ?_
      try refine R_top (y := nI _) (by assumption) ?_
      exact R_iret rfl rfl (by first | trivial | exact Or.inl rfl | exact Or.inr rfl | assumption) ⟨rfl, rfl⟩
    · have e : obR M i n (nI 4) = M 33 i := by unfold obR; rw [if_neg (by decide), if_neg (by decide), if_neg (by decide), if_neg (by decide), if_pos (by decide)]
      rw [e]
      refine CalR_of (md := md_X9_object) (d := d + 1) rfl (Nat.le_of_ble_eq_true rfl) ?_
      show WR (CalR (d + 1)) t_X9_object 9 (some .int) _ 0 [(0, .ref 0), (1, .int x), (2, .int (nI 4))] [] _
      refine R_aload_n rfl rfl ?_
      refine R_getI rfl rfl (Or.inr rfl) ?_
      try refine R_top (y := nI _) (by assumption) ?_
      refine R_ifF rfl (hl) ?_
      refine R_iload_n rfl rfl ?_
      refine R_iconst (y := nI 1) rfl (by decide) ?_
      refine R_icF rfl (h1) ?_
      refine R_iload_n rfl rfl ?_
      refine R_aload_n rfl rfl ?_
      refine R_getI rfl rfl (Or.inl rfl) ?_
      try refine R_top (y := nI _) (by assumption) ?_
      refine R_icT (pc' := 22) rfl rfl (h2) ?_
      refine R_aload_n rfl rfl ?_
      refine R_iload_n rfl rfl ?_
      refine R_virt rfl rfl rfl rfl rfl rfl rfl (Nat.le_of_ble_eq_true rfl) (fun _ q => by cases q) (r_placeOf hi he h) ?_
      try refine R_top (y := nI _) (by assumption) ?_
      refine R_istore_n (lv' := [(3, _), (0, _), (1, _), (2, _)]) rfl rfl ?_
      refine R_iload_n rfl rfl ?_
      refine R_ifT (pc' := 42) rfl rfl (by first | assumption | exact icT (by decide) | exact ic_T (by omega) (by omega) (by simp only [icN, not_true_eq_false, not_false_eq_true] <;> omega) | exact ic_T0 (by omega) (by simp only [icN, not_true_eq_false, not_false_eq_true] <;> omega)) ?_
      refine R_iload_n rfl rfl ?_
      refine R_table (pc' := 115) rfl (by decide) ?_
      refine R_aload_n rfl rfl ?_
      refine R_getA rfl rfl (Or.inl rfl) ?_
      refine R_iload_n rfl rfl ?_
      refine R_iald rfl rfl rfl (show _ < 1500 from by omega) ?_
      try refine R_top (y := nI _) (by assumption) ?_
      exact R_iret rfl rfl (by first | trivial | exact Or.inl rfl | exact Or.inr rfl | assumption) ⟨rfl, rfl⟩
  · have ne : ∀ k : Nat, k ≤ 4 → ¬ w = nI k := fun k hk q => by
      rw [q, nI_toInt (by omega)] at hout
      omega
    have e : obR M i n w = -1 := by
      unfold obR
      rw [if_neg (show ¬ w = 0 from ne 0 (by omega)), if_neg (show ¬ w = 1 from ne 1 (by omega)), if_neg (show ¬ w = 2 from ne 2 (by omega)), if_neg (show ¬ w = 3 from ne 3 (by omega)), if_neg (show ¬ w = 4 from ne 4 (by omega))]
    rw [e]
    refine CalR_of (md := md_X9_object) (d := d + 1) rfl (Nat.le_of_ble_eq_true rfl) ?_
    show WR (CalR (d + 1)) t_X9_object 9 (some .int) _ 0 [(0, .ref 0), (1, .int x), (2, .int w)] [] _
    refine R_aload_n rfl rfl ?_
    refine R_getI rfl rfl (Or.inr rfl) ?_
    try refine R_top (y := nI _) (by assumption) ?_
    refine R_ifF rfl (hl) ?_
    refine R_iload_n rfl rfl ?_
    refine R_iconst (y := nI 1) rfl (by decide) ?_
    refine R_icF rfl (h1) ?_
    refine R_iload_n rfl rfl ?_
    refine R_aload_n rfl rfl ?_
    refine R_getI rfl rfl (Or.inl rfl) ?_
    try refine R_top (y := nI _) (by assumption) ?_
    refine R_icT (pc' := 22) rfl rfl (h2) ?_
    refine R_aload_n rfl rfl ?_
    refine R_iload_n rfl rfl ?_
    refine R_virt rfl rfl rfl rfl rfl rfl rfl (Nat.le_of_ble_eq_true rfl) (fun _ q => by cases q) (r_placeOf hi he h) ?_
    try refine R_top (y := nI _) (by assumption) ?_
    refine R_istore_n (lv' := [(3, _), (0, _), (1, _), (2, _)]) rfl rfl ?_
    refine R_iload_n rfl rfl ?_
    refine R_ifT (pc' := 42) rfl rfl (by first | assumption | exact icT (by decide) | exact ic_T (by omega) (by omega) (by simp only [icN, not_true_eq_false, not_false_eq_true] <;> omega) | exact ic_T0 (by omega) (by simp only [icN, not_true_eq_false, not_false_eq_true] <;> omega)) ?_
    refine R_iload_n rfl rfl ?_
    refine R_table (pc' := 122) rfl (congrArg (jt 43) (swt_out hout)) ?_
    refine R_iconst (y := (-1)) rfl (by decide) ?_
    exact R_iret rfl rfl (by first | trivial | exact Or.inl rfl | exact Or.inr rfl | assumption) ⟨rfl, rfl⟩
theorem r_slotN {d : Nat} {M : Mem} {x y w : Int32} (h : M 7 0 = 0 ∨ x < nI 1 ∨ M 40 0 < x) : CalR (d + 2) j_X9_slot [.ref 0, .int x, .int y, .int w] M (some (.int (-1))) M := by
  by_cases h1 : M 7 0 = 0
  · have h1' : 0 = M 7 0 := h1.symm
    clear h
    refine CalR_of (md := md_X9_slot) (d := d + 1) rfl (Nat.le_of_ble_eq_true rfl) ?_
    show WR (CalR (d + 1)) t_X9_slot 9 (some .int) _ 0 [(0, .ref 0), (1, .int x), (2, .int y), (3, .int w)] [] _
    refine R_aload_n rfl rfl ?_
    refine R_getI rfl rfl (Or.inr rfl) ?_
    try refine R_top (y := nI _) (by assumption) ?_
    refine R_ifT (pc' := 20) rfl rfl (by first | assumption | exact icT (by decide) | exact ic_T (by omega) (by omega) (by simp only [icN, not_true_eq_false, not_false_eq_true] <;> omega) | exact ic_T0 (by omega) (by simp only [icN, not_true_eq_false, not_false_eq_true] <;> omega)) ?_
    refine R_iconst (y := (-1)) rfl (by decide) ?_
    exact R_iret rfl rfl (by first | trivial | exact Or.inl rfl | exact Or.inr rfl | assumption) ⟨rfl, rfl⟩
  · by_cases h2 : x < nI 1
    · refine CalR_of (md := md_X9_slot) (d := d + 1) rfl (Nat.le_of_ble_eq_true rfl) ?_
      show WR (CalR (d + 1)) t_X9_slot 9 (some .int) _ 0 [(0, .ref 0), (1, .int x), (2, .int y), (3, .int w)] [] _
      refine R_aload_n rfl rfl ?_
      refine R_getI rfl rfl (Or.inr rfl) ?_
      try refine R_top (y := nI _) (by assumption) ?_
      refine R_ifF rfl (h1) ?_
      refine R_iload_n rfl rfl ?_
      refine R_iconst (y := nI 1) rfl (by decide) ?_
      refine R_icT (pc' := 20) rfl rfl (h2) ?_
      refine R_iconst (y := (-1)) rfl (by decide) ?_
      exact R_iret rfl rfl (by first | trivial | exact Or.inl rfl | exact Or.inr rfl | assumption) ⟨rfl, rfl⟩
    · have h3 : ¬ x ≤ M 40 0 := fun q => by
        rcases h with h | h | h
        · exact h1 h
        · exact h2 h
        · exact absurd h (Int32.not_lt.mpr q)
      refine CalR_of (md := md_X9_slot) (d := d + 1) rfl (Nat.le_of_ble_eq_true rfl) ?_
      show WR (CalR (d + 1)) t_X9_slot 9 (some .int) _ 0 [(0, .ref 0), (1, .int x), (2, .int y), (3, .int w)] [] _
      refine R_aload_n rfl rfl ?_
      refine R_getI rfl rfl (Or.inr rfl) ?_
      try refine R_top (y := nI _) (by assumption) ?_
      refine R_ifF rfl (h1) ?_
      refine R_iload_n rfl rfl ?_
      refine R_iconst (y := nI 1) rfl (by decide) ?_
      refine R_icF rfl (h2) ?_
      refine R_iload_n rfl rfl ?_
      refine R_aload_n rfl rfl ?_
      refine R_getI rfl rfl (Or.inl rfl) ?_
      try refine R_top (y := nI _) (by assumption) ?_
      refine R_icF rfl (h3) ?_
      refine R_iconst (y := (-1)) rfl (by decide) ?_
      exact R_iret rfl rfl (by first | trivial | exact Or.inl rfl | exact Or.inr rfl | assumption) ⟨rfl, rfl⟩
theorem r_slotF {d : Nat} {M : Mem} {x y w : Int32} (hl : ¬ M 7 0 = 0) (h1 : ¬ x < nI 1) (h2 : x ≤ M 40 0) (h : ∀ i, i < 1500 → ¬ M 29 i = x) : CalR (d + 2) j_X9_slot [.ref 0, .int x, .int y, .int w] M (some (.int (-1))) M := by
  refine CalR_of (md := md_X9_slot) (d := d + 1) rfl (Nat.le_of_ble_eq_true rfl) ?_
  show WR (CalR (d + 1)) t_X9_slot 9 (some .int) _ 0 [(0, .ref 0), (1, .int x), (2, .int y), (3, .int w)] [] _
  refine R_aload_n rfl rfl ?_
  refine R_getI rfl rfl (Or.inr rfl) ?_
  try refine R_top (y := nI _) (by assumption) ?_
  refine R_ifF rfl (hl) ?_
  refine R_iload_n rfl rfl ?_
  refine R_iconst (y := nI 1) rfl (by decide) ?_
  refine R_icF rfl (h1) ?_
  refine R_iload_n rfl rfl ?_
  refine R_aload_n rfl rfl ?_
  refine R_getI rfl rfl (Or.inl rfl) ?_
  try refine R_top (y := nI _) (by assumption) ?_
  refine R_icT (pc' := 22) rfl rfl (h2) ?_
  refine R_aload_n rfl rfl ?_
  refine R_iload_n rfl rfl ?_
  refine R_virt rfl rfl rfl rfl rfl rfl rfl (Nat.le_of_ble_eq_true rfl) (fun _ q => by cases q) (r_placeN h) ?_
  try refine R_top (y := nI _) (by assumption) ?_
  refine R_istore (lv' := [(4, _), (0, _), (1, _), (2, _), (3, _)]) rfl rfl ?_
  refine R_iload rfl rfl ?_
  refine R_ifT (pc' := 58) rfl rfl (by first | assumption | exact icT (by decide) | exact ic_T (by omega) (by omega) (by simp only [icN, not_true_eq_false, not_false_eq_true] <;> omega) | exact ic_T0 (by omega) (by simp only [icN, not_true_eq_false, not_false_eq_true] <;> omega)) ?_
  refine R_iconst (y := (-1)) rfl (by decide) ?_
  exact R_iret rfl rfl (by first | trivial | exact Or.inl rfl | exact Or.inr rfl | assumption) ⟨rfl, rfl⟩
theorem r_slotO {d : Nat} {M : Mem} {i n : Nat} {x y w : Int32} (hl : ¬ M 7 0 = 0) (h1 : ¬ x < nI 1) (h2 : x ≤ M 40 0) (hi : i < 1500) (he : M 29 i = x) (h : ∀ j, j < i → ¬ M 29 j = x) (hn : M 32 i = nI n) (ho : y < 0 ∨ nI n ≤ y ∨ w < 0 ∨ nI 2 < w) : CalR (d + 2) j_X9_slot [.ref 0, .int x, .int y, .int w] M (some (.int (-1))) M := by
  by_cases g1 : y < 0
  · refine CalR_of (md := md_X9_slot) (d := d + 1) rfl (Nat.le_of_ble_eq_true rfl) ?_
    show WR (CalR (d + 1)) t_X9_slot 9 (some .int) _ 0 [(0, .ref 0), (1, .int x), (2, .int y), (3, .int w)] [] _
    refine R_aload_n rfl rfl ?_
    refine R_getI rfl rfl (Or.inr rfl) ?_
    try refine R_top (y := nI _) (by assumption) ?_
    refine R_ifF rfl (hl) ?_
    refine R_iload_n rfl rfl ?_
    refine R_iconst (y := nI 1) rfl (by decide) ?_
    refine R_icF rfl (h1) ?_
    refine R_iload_n rfl rfl ?_
    refine R_aload_n rfl rfl ?_
    refine R_getI rfl rfl (Or.inl rfl) ?_
    try refine R_top (y := nI _) (by assumption) ?_
    refine R_icT (pc' := 22) rfl rfl (h2) ?_
    refine R_aload_n rfl rfl ?_
    refine R_iload_n rfl rfl ?_
    refine R_virt rfl rfl rfl rfl rfl rfl rfl (Nat.le_of_ble_eq_true rfl) (fun _ q => by cases q) (r_placeOf hi he h) ?_
    try refine R_top (y := nI _) (by assumption) ?_
    refine R_istore (lv' := [(4, _), (0, _), (1, _), (2, _), (3, _)]) rfl rfl ?_
    refine R_iload rfl rfl ?_
    refine R_ifF rfl (by first | assumption | exact icF (by decide) | exact ic_F (by omega) (by omega) (by simp only [icN, not_true_eq_false, not_false_eq_true] <;> omega) | exact ic_F0 (by omega) (by simp only [icN, not_true_eq_false, not_false_eq_true] <;> omega)) ?_
    refine R_iload_n rfl rfl ?_
    refine R_ifT (pc' := 58) rfl rfl (g1) ?_
    refine R_iconst (y := (-1)) rfl (by decide) ?_
    exact R_iret rfl rfl (by first | trivial | exact Or.inl rfl | exact Or.inr rfl | assumption) ⟨rfl, rfl⟩
  · by_cases g2 : nI n ≤ y
    · refine CalR_of (md := md_X9_slot) (d := d + 1) rfl (Nat.le_of_ble_eq_true rfl) ?_
      show WR (CalR (d + 1)) t_X9_slot 9 (some .int) _ 0 [(0, .ref 0), (1, .int x), (2, .int y), (3, .int w)] [] _
      refine R_aload_n rfl rfl ?_
      refine R_getI rfl rfl (Or.inr rfl) ?_
      try refine R_top (y := nI _) (by assumption) ?_
      refine R_ifF rfl (hl) ?_
      refine R_iload_n rfl rfl ?_
      refine R_iconst (y := nI 1) rfl (by decide) ?_
      refine R_icF rfl (h1) ?_
      refine R_iload_n rfl rfl ?_
      refine R_aload_n rfl rfl ?_
      refine R_getI rfl rfl (Or.inl rfl) ?_
      try refine R_top (y := nI _) (by assumption) ?_
      refine R_icT (pc' := 22) rfl rfl (h2) ?_
      refine R_aload_n rfl rfl ?_
      refine R_iload_n rfl rfl ?_
      refine R_virt rfl rfl rfl rfl rfl rfl rfl (Nat.le_of_ble_eq_true rfl) (fun _ q => by cases q) (r_placeOf hi he h) ?_
      try refine R_top (y := nI _) (by assumption) ?_
      refine R_istore (lv' := [(4, _), (0, _), (1, _), (2, _), (3, _)]) rfl rfl ?_
      refine R_iload rfl rfl ?_
      refine R_ifF rfl (by first | assumption | exact icF (by decide) | exact ic_F (by omega) (by omega) (by simp only [icN, not_true_eq_false, not_false_eq_true] <;> omega) | exact ic_F0 (by omega) (by simp only [icN, not_true_eq_false, not_false_eq_true] <;> omega)) ?_
      refine R_iload_n rfl rfl ?_
      refine R_ifF rfl (g1) ?_
      refine R_iload_n rfl rfl ?_
      refine R_aload_n rfl rfl ?_
      refine R_getA rfl rfl (Or.inl rfl) ?_
      refine R_iload rfl rfl ?_
      refine R_iald rfl rfl rfl (show _ < 1500 from by omega) ?_
      try refine R_top (y := nI _) (by assumption) ?_
      refine R_icT (pc' := 58) rfl rfl (g2) ?_
      refine R_iconst (y := (-1)) rfl (by decide) ?_
      exact R_iret rfl rfl (by first | trivial | exact Or.inl rfl | exact Or.inr rfl | assumption) ⟨rfl, rfl⟩
    · by_cases g3 : w < 0
      · refine CalR_of (md := md_X9_slot) (d := d + 1) rfl (Nat.le_of_ble_eq_true rfl) ?_
        show WR (CalR (d + 1)) t_X9_slot 9 (some .int) _ 0 [(0, .ref 0), (1, .int x), (2, .int y), (3, .int w)] [] _
        refine R_aload_n rfl rfl ?_
        refine R_getI rfl rfl (Or.inr rfl) ?_
        try refine R_top (y := nI _) (by assumption) ?_
        refine R_ifF rfl (hl) ?_
        refine R_iload_n rfl rfl ?_
        refine R_iconst (y := nI 1) rfl (by decide) ?_
        refine R_icF rfl (h1) ?_
        refine R_iload_n rfl rfl ?_
        refine R_aload_n rfl rfl ?_
        refine R_getI rfl rfl (Or.inl rfl) ?_
        try refine R_top (y := nI _) (by assumption) ?_
        refine R_icT (pc' := 22) rfl rfl (h2) ?_
        refine R_aload_n rfl rfl ?_
        refine R_iload_n rfl rfl ?_
        refine R_virt rfl rfl rfl rfl rfl rfl rfl (Nat.le_of_ble_eq_true rfl) (fun _ q => by cases q) (r_placeOf hi he h) ?_
        try refine R_top (y := nI _) (by assumption) ?_
        refine R_istore (lv' := [(4, _), (0, _), (1, _), (2, _), (3, _)]) rfl rfl ?_
        refine R_iload rfl rfl ?_
        refine R_ifF rfl (by first | assumption | exact icF (by decide) | exact ic_F (by omega) (by omega) (by simp only [icN, not_true_eq_false, not_false_eq_true] <;> omega) | exact ic_F0 (by omega) (by simp only [icN, not_true_eq_false, not_false_eq_true] <;> omega)) ?_
        refine R_iload_n rfl rfl ?_
        refine R_ifF rfl (g1) ?_
        refine R_iload_n rfl rfl ?_
        refine R_aload_n rfl rfl ?_
        refine R_getA rfl rfl (Or.inl rfl) ?_
        refine R_iload rfl rfl ?_
        refine R_iald rfl rfl rfl (show _ < 1500 from by omega) ?_
        try refine R_top (y := nI _) (by assumption) ?_
        refine R_icF rfl (g2) ?_
        refine R_iload_n rfl rfl ?_
        refine R_ifT (pc' := 58) rfl rfl (g3) ?_
        refine R_iconst (y := (-1)) rfl (by decide) ?_
        exact R_iret rfl rfl (by first | trivial | exact Or.inl rfl | exact Or.inr rfl | assumption) ⟨rfl, rfl⟩
      · have g4 : ¬ w ≤ nI 2 := fun q => by
          rcases ho with r | r | r | r
          · exact g1 r
          · exact g2 r
          · exact g3 r
          · exact absurd r (Int32.not_lt.mpr q)
        refine CalR_of (md := md_X9_slot) (d := d + 1) rfl (Nat.le_of_ble_eq_true rfl) ?_
        show WR (CalR (d + 1)) t_X9_slot 9 (some .int) _ 0 [(0, .ref 0), (1, .int x), (2, .int y), (3, .int w)] [] _
        refine R_aload_n rfl rfl ?_
        refine R_getI rfl rfl (Or.inr rfl) ?_
        try refine R_top (y := nI _) (by assumption) ?_
        refine R_ifF rfl (hl) ?_
        refine R_iload_n rfl rfl ?_
        refine R_iconst (y := nI 1) rfl (by decide) ?_
        refine R_icF rfl (h1) ?_
        refine R_iload_n rfl rfl ?_
        refine R_aload_n rfl rfl ?_
        refine R_getI rfl rfl (Or.inl rfl) ?_
        try refine R_top (y := nI _) (by assumption) ?_
        refine R_icT (pc' := 22) rfl rfl (h2) ?_
        refine R_aload_n rfl rfl ?_
        refine R_iload_n rfl rfl ?_
        refine R_virt rfl rfl rfl rfl rfl rfl rfl (Nat.le_of_ble_eq_true rfl) (fun _ q => by cases q) (r_placeOf hi he h) ?_
        try refine R_top (y := nI _) (by assumption) ?_
        refine R_istore (lv' := [(4, _), (0, _), (1, _), (2, _), (3, _)]) rfl rfl ?_
        refine R_iload rfl rfl ?_
        refine R_ifF rfl (by first | assumption | exact icF (by decide) | exact ic_F (by omega) (by omega) (by simp only [icN, not_true_eq_false, not_false_eq_true] <;> omega) | exact ic_F0 (by omega) (by simp only [icN, not_true_eq_false, not_false_eq_true] <;> omega)) ?_
        refine R_iload_n rfl rfl ?_
        refine R_ifF rfl (g1) ?_
        refine R_iload_n rfl rfl ?_
        refine R_aload_n rfl rfl ?_
        refine R_getA rfl rfl (Or.inl rfl) ?_
        refine R_iload rfl rfl ?_
        refine R_iald rfl rfl rfl (show _ < 1500 from by omega) ?_
        try refine R_top (y := nI _) (by assumption) ?_
        refine R_icF rfl (g2) ?_
        refine R_iload_n rfl rfl ?_
        refine R_ifF rfl (g3) ?_
        refine R_iload_n rfl rfl ?_
        refine R_iconst (y := nI 2) rfl (by decide) ?_
        refine R_icF rfl (g4) ?_
        refine R_iconst (y := (-1)) rfl (by decide) ?_
        exact R_iret rfl rfl (by first | trivial | exact Or.inl rfl | exact Or.inr rfl | assumption) ⟨rfl, rfl⟩
theorem r_slot0 {d : Nat} {M : Mem} {i n e : Nat} {x : Int32} (hl : ¬ M 7 0 = 0) (h1 : ¬ x < nI 1) (h2 : x ≤ M 40 0) (hi : i < 1500) (he : M 29 i = x) (h : ∀ j, j < i → ¬ M 29 j = x) (hn : M 32 i = nI n) (hn4 : n ≤ 40) (hen : e < n) : CalR (d + 2) j_X9_slot [.ref 0, .int x, .int (nI e), .int (nI 0)] M (some (.int (M 34 (40 * i + e)))) M := by
  refine CalR_of (md := md_X9_slot) (d := d + 1) rfl (Nat.le_of_ble_eq_true rfl) ?_
  show WR (CalR (d + 1)) t_X9_slot 9 (some .int) _ 0 [(0, .ref 0), (1, .int x), (2, .int (nI e)), (3, .int (nI 0))] [] _
  refine R_aload_n rfl rfl ?_
  refine R_getI rfl rfl (Or.inr rfl) ?_
  try refine R_top (y := nI _) (by assumption) ?_
  refine R_ifF rfl (hl) ?_
  refine R_iload_n rfl rfl ?_
  refine R_iconst (y := nI 1) rfl (by decide) ?_
  refine R_icF rfl (h1) ?_
  refine R_iload_n rfl rfl ?_
  refine R_aload_n rfl rfl ?_
  refine R_getI rfl rfl (Or.inl rfl) ?_
  try refine R_top (y := nI _) (by assumption) ?_
  refine R_icT (pc' := 22) rfl rfl (h2) ?_
  refine R_aload_n rfl rfl ?_
  refine R_iload_n rfl rfl ?_
  refine R_virt rfl rfl rfl rfl rfl rfl rfl (Nat.le_of_ble_eq_true rfl) (fun _ q => by cases q) (r_placeOf hi he h) ?_
  try refine R_top (y := nI _) (by assumption) ?_
  refine R_istore (lv' := [(4, _), (0, _), (1, _), (2, _), (3, _)]) rfl rfl ?_
  refine R_iload rfl rfl ?_
  refine R_ifF rfl (by first | assumption | exact icF (by decide) | exact ic_F (by omega) (by omega) (by simp only [icN, not_true_eq_false, not_false_eq_true] <;> omega) | exact ic_F0 (by omega) (by simp only [icN, not_true_eq_false, not_false_eq_true] <;> omega)) ?_
  refine R_iload_n rfl rfl ?_
  refine R_ifF rfl (by first | assumption | exact icF (by decide) | exact ic_F (by omega) (by omega) (by simp only [icN, not_true_eq_false, not_false_eq_true] <;> omega) | exact ic_F0 (by omega) (by simp only [icN, not_true_eq_false, not_false_eq_true] <;> omega)) ?_
  refine R_iload_n rfl rfl ?_
  refine R_aload_n rfl rfl ?_
  refine R_getA rfl rfl (Or.inl rfl) ?_
  refine R_iload rfl rfl ?_
  refine R_iald rfl rfl rfl (show _ < 1500 from by omega) ?_
  try refine R_top (y := nI _) (by assumption) ?_
  refine R_icF rfl (by first | assumption | exact icF (by decide) | exact ic_F (by omega) (by omega) (by simp only [icN, not_true_eq_false, not_false_eq_true] <;> omega) | exact ic_F0 (by omega) (by simp only [icN, not_true_eq_false, not_false_eq_true] <;> omega)) ?_
  refine R_iload_n rfl rfl ?_
  refine R_ifF rfl (by first | assumption | exact icF (by decide) | exact ic_F (by omega) (by omega) (by simp only [icN, not_true_eq_false, not_false_eq_true] <;> omega) | exact ic_F0 (by omega) (by simp only [icN, not_true_eq_false, not_false_eq_true] <;> omega)) ?_
  refine R_iload_n rfl rfl ?_
  refine R_iconst (y := nI 2) rfl (by decide) ?_
  refine R_icT (pc' := 60) rfl rfl (by first | assumption | exact icT (by decide) | exact ic_T (by omega) (by omega) (by simp only [icN, not_true_eq_false, not_false_eq_true] <;> omega) | exact ic_T0 (by omega) (by simp only [icN, not_true_eq_false, not_false_eq_true] <;> omega)) ?_
  refine R_bipush (y := nI 40) rfl (by decide) ?_
  refine R_iload rfl rfl ?_
  first | refine R_imulN rfl ?_ | refine R_imul rfl ?_
  refine R_iload_n rfl rfl ?_
  first | refine R_iaddN rfl ?_ | refine R_iadd rfl ?_
  refine R_istore (lv' := [(5, _), (4, _), (0, _), (1, _), (2, _), (3, _)]) rfl rfl ?_
  refine R_iload_n rfl rfl ?_
  refine R_ifF rfl (by first | assumption | exact icF (by decide) | exact ic_F (by omega) (by omega) (by simp only [icN, not_true_eq_false, not_false_eq_true] <;> omega) | exact ic_F0 (by omega) (by simp only [icN, not_true_eq_false, not_false_eq_true] <;> omega)) ?_
  refine R_aload_n rfl rfl ?_
  refine R_getA rfl rfl (Or.inl rfl) ?_
  refine R_iload rfl rfl ?_
  refine R_iald rfl rfl rfl (show _ < 60000 from by omega) ?_
  try refine R_top (y := nI _) (by assumption) ?_
  refine R_goto (pc' := 104) rfl rfl ?_
  exact R_iret rfl rfl (by first | trivial | exact Or.inl rfl | exact Or.inr rfl | assumption) ⟨rfl, rfl⟩
theorem r_slotV {d : Nat} {M : Mem} {i n e k w : Nat} {x : Int32} (hl : ¬ M 7 0 = 0) (h1 : ¬ x < nI 1) (h2 : x ≤ M 40 0) (hi : i < 1500) (he : M 29 i = x) (h : ∀ j, j < i → ¬ M 29 j = x) (hn : M 32 i = nI n) (hn4 : n ≤ 40) (hen : e < n) (hw0 : 0 < w) (hw2 : w ≤ 2) (hk4 : k < 4) (hk : M 35 (40 * i + e) = nI k) (hk2 : k = 2 → ∃ j, j < 1500 ∧ M 36 (40 * i + e) = nI j) (hk0 : k = 0 → M 36 (40 * i + e) = 0) : CalR (d + 2) j_X9_slot [.ref 0, .int x, .int (nI e), .int (nI w)] M (some (.int (tlR M k (M 36 (40 * i + e)) (nI (w - 1))))) M := by
  refine CalR_of (md := md_X9_slot) (d := d + 1) rfl (Nat.le_of_ble_eq_true rfl) ?_
  show WR (CalR (d + 1)) t_X9_slot 9 (some .int) _ 0 [(0, .ref 0), (1, .int x), (2, .int (nI e)), (3, .int (nI w))] [] _
  refine R_aload_n rfl rfl ?_
  refine R_getI rfl rfl (Or.inr rfl) ?_
  try refine R_top (y := nI _) (by assumption) ?_
  refine R_ifF rfl (hl) ?_
  refine R_iload_n rfl rfl ?_
  refine R_iconst (y := nI 1) rfl (by decide) ?_
  refine R_icF rfl (h1) ?_
  refine R_iload_n rfl rfl ?_
  refine R_aload_n rfl rfl ?_
  refine R_getI rfl rfl (Or.inl rfl) ?_
  try refine R_top (y := nI _) (by assumption) ?_
  refine R_icT (pc' := 22) rfl rfl (h2) ?_
  refine R_aload_n rfl rfl ?_
  refine R_iload_n rfl rfl ?_
  refine R_virt rfl rfl rfl rfl rfl rfl rfl (Nat.le_of_ble_eq_true rfl) (fun _ q => by cases q) (r_placeOf hi he h) ?_
  try refine R_top (y := nI _) (by assumption) ?_
  refine R_istore (lv' := [(4, _), (0, _), (1, _), (2, _), (3, _)]) rfl rfl ?_
  refine R_iload rfl rfl ?_
  refine R_ifF rfl (by first | assumption | exact icF (by decide) | exact ic_F (by omega) (by omega) (by simp only [icN, not_true_eq_false, not_false_eq_true] <;> omega) | exact ic_F0 (by omega) (by simp only [icN, not_true_eq_false, not_false_eq_true] <;> omega)) ?_
  refine R_iload_n rfl rfl ?_
  refine R_ifF rfl (by first | assumption | exact icF (by decide) | exact ic_F (by omega) (by omega) (by simp only [icN, not_true_eq_false, not_false_eq_true] <;> omega) | exact ic_F0 (by omega) (by simp only [icN, not_true_eq_false, not_false_eq_true] <;> omega)) ?_
  refine R_iload_n rfl rfl ?_
  refine R_aload_n rfl rfl ?_
  refine R_getA rfl rfl (Or.inl rfl) ?_
  refine R_iload rfl rfl ?_
  refine R_iald rfl rfl rfl (show _ < 1500 from by omega) ?_
  try refine R_top (y := nI _) (by assumption) ?_
  refine R_icF rfl (by first | assumption | exact icF (by decide) | exact ic_F (by omega) (by omega) (by simp only [icN, not_true_eq_false, not_false_eq_true] <;> omega) | exact ic_F0 (by omega) (by simp only [icN, not_true_eq_false, not_false_eq_true] <;> omega)) ?_
  refine R_iload_n rfl rfl ?_
  refine R_ifF rfl (by first | assumption | exact icF (by decide) | exact ic_F (by omega) (by omega) (by simp only [icN, not_true_eq_false, not_false_eq_true] <;> omega) | exact ic_F0 (by omega) (by simp only [icN, not_true_eq_false, not_false_eq_true] <;> omega)) ?_
  refine R_iload_n rfl rfl ?_
  refine R_iconst (y := nI 2) rfl (by decide) ?_
  refine R_icT (pc' := 60) rfl rfl (by first | assumption | exact icT (by decide) | exact ic_T (by omega) (by omega) (by simp only [icN, not_true_eq_false, not_false_eq_true] <;> omega) | exact ic_T0 (by omega) (by simp only [icN, not_true_eq_false, not_false_eq_true] <;> omega)) ?_
  refine R_bipush (y := nI 40) rfl (by decide) ?_
  refine R_iload rfl rfl ?_
  first | refine R_imulN rfl ?_ | refine R_imul rfl ?_
  refine R_iload_n rfl rfl ?_
  first | refine R_iaddN rfl ?_ | refine R_iadd rfl ?_
  refine R_istore (lv' := [(5, _), (4, _), (0, _), (1, _), (2, _), (3, _)]) rfl rfl ?_
  refine R_iload_n rfl rfl ?_
  refine R_ifT (pc' := 83) rfl rfl (by first | assumption | exact icT (by decide) | exact ic_T (by omega) (by omega) (by simp only [icN, not_true_eq_false, not_false_eq_true] <;> omega) | exact ic_T0 (by omega) (by simp only [icN, not_true_eq_false, not_false_eq_true] <;> omega)) ?_
  refine R_aload_n rfl rfl ?_
  refine R_aload_n rfl rfl ?_
  refine R_getA rfl rfl (Or.inl rfl) ?_
  refine R_iload rfl rfl ?_
  refine R_iald rfl rfl rfl (show _ < 60000 from by omega) ?_
  try refine R_top (y := nI _) (by assumption) ?_
  refine R_aload_n rfl rfl ?_
  refine R_getA rfl rfl (Or.inl rfl) ?_
  refine R_iload rfl rfl ?_
  refine R_iald rfl rfl rfl (show _ < 60000 from by omega) ?_
  try refine R_top (y := nI _) (by assumption) ?_
  refine R_iload_n rfl rfl ?_
  refine R_iconst (y := nI 1) rfl (by decide) ?_
  first | refine R_isubN rfl (by omega) ?_ | refine R_isub rfl ?_
  refine R_virt rfl rfl rfl rfl rfl rfl rfl (Nat.le_of_ble_eq_true rfl) (fun _ q => by cases q) (r_tell hk4 hk2 hk0) ?_
  try refine R_top (y := nI _) (by assumption) ?_
  exact R_iret rfl rfl (by first | trivial | exact Or.inl rfl | exact Or.inr rfl | assumption) ⟨rfl, rfl⟩
theorem r_outN {d : Nat} {M : Mem} {x w : Int32} (h : x < 0 ∨ M 28 0 ≤ x ∨ nI 1000 ≤ x ∨ w < 0 ∨ nI 1 < w) : CalR (d + 1) j_X9_out [.ref 0, .int x, .int w] M (some (.int (-1))) M := by
  by_cases g1 : x < 0
  · refine CalR_of (md := md_X9_out) rfl (Nat.le_of_ble_eq_true rfl) ?_
    show WR (CalR d) t_X9_out 9 (some .int) _ 0 [(0, .ref 0), (1, .int x), (2, .int w)] [] _
    refine R_iload_n rfl rfl ?_
    refine R_ifT (pc' := 28) rfl rfl (g1) ?_
    refine R_iconst (y := (-1)) rfl (by decide) ?_
    exact R_iret rfl rfl (by first | trivial | exact Or.inl rfl | exact Or.inr rfl | assumption) ⟨rfl, rfl⟩
  · by_cases g2 : M 28 0 ≤ x
    · refine CalR_of (md := md_X9_out) rfl (Nat.le_of_ble_eq_true rfl) ?_
      show WR (CalR d) t_X9_out 9 (some .int) _ 0 [(0, .ref 0), (1, .int x), (2, .int w)] [] _
      refine R_iload_n rfl rfl ?_
      refine R_ifF rfl (g1) ?_
      refine R_iload_n rfl rfl ?_
      refine R_aload_n rfl rfl ?_
      refine R_getI rfl rfl (Or.inl rfl) ?_
      try refine R_top (y := nI _) (by assumption) ?_
      refine R_icT (pc' := 28) rfl rfl (g2) ?_
      refine R_iconst (y := (-1)) rfl (by decide) ?_
      exact R_iret rfl rfl (by first | trivial | exact Or.inl rfl | exact Or.inr rfl | assumption) ⟨rfl, rfl⟩
    · by_cases g3 : nI 1000 ≤ x
      · refine CalR_of (md := md_X9_out) rfl (Nat.le_of_ble_eq_true rfl) ?_
        show WR (CalR d) t_X9_out 9 (some .int) _ 0 [(0, .ref 0), (1, .int x), (2, .int w)] [] _
        refine R_iload_n rfl rfl ?_
        refine R_ifF rfl (g1) ?_
        refine R_iload_n rfl rfl ?_
        refine R_aload_n rfl rfl ?_
        refine R_getI rfl rfl (Or.inl rfl) ?_
        try refine R_top (y := nI _) (by assumption) ?_
        refine R_icF rfl (g2) ?_
        refine R_iload_n rfl rfl ?_
        refine R_sipush (y := nI 1000) rfl (by decide) ?_
        refine R_icT (pc' := 28) rfl rfl (g3) ?_
        refine R_iconst (y := (-1)) rfl (by decide) ?_
        exact R_iret rfl rfl (by first | trivial | exact Or.inl rfl | exact Or.inr rfl | assumption) ⟨rfl, rfl⟩
      · by_cases g4 : w < 0
        · refine CalR_of (md := md_X9_out) rfl (Nat.le_of_ble_eq_true rfl) ?_
          show WR (CalR d) t_X9_out 9 (some .int) _ 0 [(0, .ref 0), (1, .int x), (2, .int w)] [] _
          refine R_iload_n rfl rfl ?_
          refine R_ifF rfl (g1) ?_
          refine R_iload_n rfl rfl ?_
          refine R_aload_n rfl rfl ?_
          refine R_getI rfl rfl (Or.inl rfl) ?_
          try refine R_top (y := nI _) (by assumption) ?_
          refine R_icF rfl (g2) ?_
          refine R_iload_n rfl rfl ?_
          refine R_sipush (y := nI 1000) rfl (by decide) ?_
          refine R_icF rfl (g3) ?_
          refine R_iload_n rfl rfl ?_
          refine R_ifT (pc' := 28) rfl rfl (g4) ?_
          refine R_iconst (y := (-1)) rfl (by decide) ?_
          exact R_iret rfl rfl (by first | trivial | exact Or.inl rfl | exact Or.inr rfl | assumption) ⟨rfl, rfl⟩
        · have g5 : ¬ w ≤ nI 1 := fun q => by
            rcases h with r | r | r | r | r
            · exact g1 r
            · exact g2 r
            · exact g3 r
            · exact g4 r
            · exact absurd r (Int32.not_lt.mpr q)
          refine CalR_of (md := md_X9_out) rfl (Nat.le_of_ble_eq_true rfl) ?_
          show WR (CalR d) t_X9_out 9 (some .int) _ 0 [(0, .ref 0), (1, .int x), (2, .int w)] [] _
          refine R_iload_n rfl rfl ?_
          refine R_ifF rfl (g1) ?_
          refine R_iload_n rfl rfl ?_
          refine R_aload_n rfl rfl ?_
          refine R_getI rfl rfl (Or.inl rfl) ?_
          try refine R_top (y := nI _) (by assumption) ?_
          refine R_icF rfl (g2) ?_
          refine R_iload_n rfl rfl ?_
          refine R_sipush (y := nI 1000) rfl (by decide) ?_
          refine R_icF rfl (g3) ?_
          refine R_iload_n rfl rfl ?_
          refine R_ifF rfl (g4) ?_
          refine R_iload_n rfl rfl ?_
          refine R_iconst (y := nI 1) rfl (by decide) ?_
          refine R_icF rfl (g5) ?_
          refine R_iconst (y := (-1)) rfl (by decide) ?_
          exact R_iret rfl rfl (by first | trivial | exact Or.inl rfl | exact Or.inr rfl | assumption) ⟨rfl, rfl⟩
theorem r_out0 {d : Nat} {M : Mem} {e o : Nat} (ho : M 28 0 = nI o) (ho2 : o < 2 ^ 31) (he : e < o) (he2 : e < 1000) : CalR (d + 1) j_X9_out [.ref 0, .int (nI e), .int (nI 0)] M (some (.int (M 26 e))) M := by
  refine CalR_of (md := md_X9_out) rfl (Nat.le_of_ble_eq_true rfl) ?_
  show WR (CalR d) t_X9_out 9 (some .int) _ 0 [(0, .ref 0), (1, .int (nI e)), (2, .int (nI 0))] [] _
  refine R_iload_n rfl rfl ?_
  refine R_ifF rfl (by first | assumption | exact icF (by decide) | exact ic_F (by omega) (by omega) (by simp only [icN, not_true_eq_false, not_false_eq_true] <;> omega) | exact ic_F0 (by omega) (by simp only [icN, not_true_eq_false, not_false_eq_true] <;> omega)) ?_
  refine R_iload_n rfl rfl ?_
  refine R_aload_n rfl rfl ?_
  refine R_getI rfl rfl (Or.inl rfl) ?_
  try refine R_top (y := nI _) (by assumption) ?_
  refine R_icF rfl (by first | assumption | exact icF (by decide) | exact ic_F (by omega) (by omega) (by simp only [icN, not_true_eq_false, not_false_eq_true] <;> omega) | exact ic_F0 (by omega) (by simp only [icN, not_true_eq_false, not_false_eq_true] <;> omega)) ?_
  refine R_iload_n rfl rfl ?_
  refine R_sipush (y := nI 1000) rfl (by decide) ?_
  refine R_icF rfl (by first | assumption | exact icF (by decide) | exact ic_F (by omega) (by omega) (by simp only [icN, not_true_eq_false, not_false_eq_true] <;> omega) | exact ic_F0 (by omega) (by simp only [icN, not_true_eq_false, not_false_eq_true] <;> omega)) ?_
  refine R_iload_n rfl rfl ?_
  refine R_ifF rfl (by first | assumption | exact icF (by decide) | exact ic_F (by omega) (by omega) (by simp only [icN, not_true_eq_false, not_false_eq_true] <;> omega) | exact ic_F0 (by omega) (by simp only [icN, not_true_eq_false, not_false_eq_true] <;> omega)) ?_
  refine R_iload_n rfl rfl ?_
  refine R_iconst (y := nI 1) rfl (by decide) ?_
  refine R_icT (pc' := 30) rfl rfl (by first | assumption | exact icT (by decide) | exact ic_T (by omega) (by omega) (by simp only [icN, not_true_eq_false, not_false_eq_true] <;> omega) | exact ic_T0 (by omega) (by simp only [icN, not_true_eq_false, not_false_eq_true] <;> omega)) ?_
  refine R_iload_n rfl rfl ?_
  refine R_ifF rfl (by first | assumption | exact icF (by decide) | exact ic_F (by omega) (by omega) (by simp only [icN, not_true_eq_false, not_false_eq_true] <;> omega) | exact ic_F0 (by omega) (by simp only [icN, not_true_eq_false, not_false_eq_true] <;> omega)) ?_
  refine R_aload_n rfl rfl ?_
  refine R_getA rfl rfl (Or.inl rfl) ?_
  refine R_iload_n rfl rfl ?_
  refine R_iald rfl rfl rfl (show _ < 1000 from by omega) ?_
  try refine R_top (y := nI _) (by assumption) ?_
  refine R_goto (pc' := 49) rfl rfl ?_
  exact R_iret rfl rfl (by first | trivial | exact Or.inl rfl | exact Or.inr rfl | assumption) ⟨rfl, rfl⟩
theorem r_out1 {d : Nat} {M : Mem} {e o : Nat} (ho : M 28 0 = nI o) (ho2 : o < 2 ^ 31) (he : e < o) (he2 : e < 1000) : CalR (d + 1) j_X9_out [.ref 0, .int (nI e), .int (nI 1)] M (some (.int (M 27 e))) M := by
  refine CalR_of (md := md_X9_out) rfl (Nat.le_of_ble_eq_true rfl) ?_
  show WR (CalR d) t_X9_out 9 (some .int) _ 0 [(0, .ref 0), (1, .int (nI e)), (2, .int (nI 1))] [] _
  refine R_iload_n rfl rfl ?_
  refine R_ifF rfl (by first | assumption | exact icF (by decide) | exact ic_F (by omega) (by omega) (by simp only [icN, not_true_eq_false, not_false_eq_true] <;> omega) | exact ic_F0 (by omega) (by simp only [icN, not_true_eq_false, not_false_eq_true] <;> omega)) ?_
  refine R_iload_n rfl rfl ?_
  refine R_aload_n rfl rfl ?_
  refine R_getI rfl rfl (Or.inl rfl) ?_
  try refine R_top (y := nI _) (by assumption) ?_
  refine R_icF rfl (by first | assumption | exact icF (by decide) | exact ic_F (by omega) (by omega) (by simp only [icN, not_true_eq_false, not_false_eq_true] <;> omega) | exact ic_F0 (by omega) (by simp only [icN, not_true_eq_false, not_false_eq_true] <;> omega)) ?_
  refine R_iload_n rfl rfl ?_
  refine R_sipush (y := nI 1000) rfl (by decide) ?_
  refine R_icF rfl (by first | assumption | exact icF (by decide) | exact ic_F (by omega) (by omega) (by simp only [icN, not_true_eq_false, not_false_eq_true] <;> omega) | exact ic_F0 (by omega) (by simp only [icN, not_true_eq_false, not_false_eq_true] <;> omega)) ?_
  refine R_iload_n rfl rfl ?_
  refine R_ifF rfl (by first | assumption | exact icF (by decide) | exact ic_F (by omega) (by omega) (by simp only [icN, not_true_eq_false, not_false_eq_true] <;> omega) | exact ic_F0 (by omega) (by simp only [icN, not_true_eq_false, not_false_eq_true] <;> omega)) ?_
  refine R_iload_n rfl rfl ?_
  refine R_iconst (y := nI 1) rfl (by decide) ?_
  refine R_icT (pc' := 30) rfl rfl (by first | assumption | exact icT (by decide) | exact ic_T (by omega) (by omega) (by simp only [icN, not_true_eq_false, not_false_eq_true] <;> omega) | exact ic_T0 (by omega) (by simp only [icN, not_true_eq_false, not_false_eq_true] <;> omega)) ?_
  refine R_iload_n rfl rfl ?_
  refine R_ifT (pc' := 43) rfl rfl (by first | assumption | exact icT (by decide) | exact ic_T (by omega) (by omega) (by simp only [icN, not_true_eq_false, not_false_eq_true] <;> omega) | exact ic_T0 (by omega) (by simp only [icN, not_true_eq_false, not_false_eq_true] <;> omega)) ?_
  refine R_aload_n rfl rfl ?_
  refine R_getA rfl rfl (Or.inl rfl) ?_
  refine R_iload_n rfl rfl ?_
  refine R_iald rfl rfl rfl (show _ < 1000 from by omega) ?_
  try refine R_top (y := nI _) (by assumption) ?_
  exact R_iret rfl rfl (by first | trivial | exact Or.inl rfl | exact Or.inr rfl | assumption) ⟨rfl, rfl⟩
