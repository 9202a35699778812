/-! ===== the reference: isCalm, remembers, meet ===== -/
def serA (M : Mem) (c : Int32) : Int32 := if c < 0 then 0 else M 29 c.toNatClampNeg
theorem r_ser {d : Nat} {M : Mem} {c : Int32} (h : c = -1 ∨ ∃ i, i < 1500 ∧ c = nI i) : CalR (d + 1) j_X9_serialAt [.ref 0, .int c] M (some (.int (serA M c))) M := by
  unfold serA
  rcases h with rfl | ⟨i, hi, rfl⟩
  · rw [if_pos (by decide)]
    exact r_serialN
  · rw [if_neg (nI_pos (by omega)), nI_clamp (by omega)]
    exact r_serialAt hi
/-- nothing along the chain was changed since -/
def clm (M : Mem) (t : Int32) : Nat → Int32 → Bool
  | 0, _ => true
  | n + 1, c => if c < 0 then true else if M 33 c.toNatClampNeg ≤ t then clm M t n (M 31 c.toNatClampNeg) else false
def b2i (b : Bool) : Int32 := if b = true then 1 else 0
theorem r_calmL {d : Nat} {M : Mem} {lv : Nat → Prop} {rk : Nat → Nat} {a : Nat} {k y : Int32} (hd : dwn M lv rk) (ha : a < 2000) : ∀ (N : Nat) (c : Int32), (c = -1 ∨ ∃ i, lv i ∧ c = nI i ∧ rk i < N) → WR (CalR d) t_X9_isCalm 9 (some .boolean) (fun v' M' => v' = some (.int (b2i (clm M (M 51 a) (N + 1) c))) ∧ M' = M) 22 [(4, .int c), (0, .ref 0), (1, .int (nI a)), (2, .int k), (3, .int y)] [] M := by
  intro N
  induction N with
  | zero =>
    intro c hcs
    rcases hcs with rfl | ⟨i, -, -, h⟩
    · refine R_iload rfl rfl ?_
      refine R_ifT (pc' := 57) rfl rfl (by first | assumption | exact icT (by decide) | exact ic_T (by omega) (by omega) (by simp only [icN, not_true_eq_false, not_false_eq_true] <;> omega) | exact ic_T0 (by omega) (by simp only [icN, not_true_eq_false, not_false_eq_true] <;> omega)) ?_
      refine R_iconst (y := nI 1) rfl (by decide) ?_
      exact R_iret rfl rfl (by first | trivial | exact Or.inl rfl | exact Or.inr rfl | assumption) ⟨rfl, rfl⟩
    · omega
  | succ N ih =>
    intro c hcs
    rcases hcs with rfl | ⟨i, hi, rfl, hrk⟩
    · refine R_iload rfl rfl ?_
      refine R_ifT (pc' := 57) rfl rfl (by first | assumption | exact icT (by decide) | exact ic_T (by omega) (by omega) (by simp only [icN, not_true_eq_false, not_false_eq_true] <;> omega) | exact ic_T0 (by omega) (by simp only [icN, not_true_eq_false, not_false_eq_true] <;> omega)) ?_
      refine R_iconst (y := nI 1) rfl (by decide) ?_
      exact R_iret rfl rfl (by first | trivial | exact Or.inl rfl | exact Or.inr rfl | assumption) ⟨rfl, rfl⟩
    · obtain ⟨hi15, ⟨n, hn4, hn⟩, hpar⟩ := hd i hi
      have hcl : (nI i).toNatClampNeg = i := nI_clamp (by omega)
      have hnn : ¬ nI i < 0 := nI_pos (by omega)
      by_cases hle : M 33 i ≤ M 51 a
      · have hf : clm M (M 51 a) (N + 1 + 1) (nI i) = clm M (M 51 a) (N + 1) (M 31 i) := by
          rw [clm, if_neg hnn, hcl, if_pos hle]
        rw [hf]
        refine R_iload rfl rfl ?_
        refine R_ifF rfl (by first | assumption | exact icF (by decide) | exact ic_F (by omega) (by omega) (by simp only [icN, not_true_eq_false, not_false_eq_true] <;> omega) | exact ic_F0 (by omega) (by simp only [icN, not_true_eq_false, not_false_eq_true] <;> omega)) ?_
        refine R_aload_n rfl rfl ?_
        refine R_getA rfl rfl (Or.inl rfl) ?_
        refine R_iload rfl rfl ?_
        refine R_iald rfl rfl rfl (show _ < 1500 from by omega) ?_
        try refine R_top (y := nI _) (by assumption) ?_
        refine R_aload_n rfl rfl ?_
        refine R_getA rfl rfl (Or.inl rfl) ?_
        refine R_iload_n rfl rfl ?_
        refine R_iald rfl rfl rfl (show _ < 2000 from by omega) ?_
        try refine R_top (y := nI _) (by assumption) ?_
        refine R_icT (pc' := 45) rfl rfl (by first | assumption | exact icT (by decide) | exact ic_T (by omega) (by omega) (by simp only [icN, not_true_eq_false, not_false_eq_true] <;> omega) | exact ic_T0 (by omega) (by simp only [icN, not_true_eq_false, not_false_eq_true] <;> omega)) ?_
        refine R_aload_n rfl rfl ?_
        refine R_getA rfl rfl (Or.inl rfl) ?_
        refine R_iload rfl rfl ?_
        refine R_iald rfl rfl rfl (show _ < 1500 from by omega) ?_
        try refine R_top (y := nI _) (by assumption) ?_
        refine R_istore (lv' := [(4, _), (0, _), (1, _), (2, _), (3, _)]) rfl rfl ?_
        refine R_goto (pc' := 22) rfl rfl ?_
        refine ih (M 31 i) ?_
        rcases hpar with h | ⟨j, h1, h2, h3⟩
        · exact Or.inl h
        · exact Or.inr ⟨j, h1, h2, by omega⟩
      · have hf : clm M (M 51 a) (N + 1 + 1) (nI i) = false := by
          rw [clm, if_neg hnn, hcl, if_neg hle]
        rw [hf]
        refine R_iload rfl rfl ?_
        refine R_ifF rfl (by first | assumption | exact icF (by decide) | exact ic_F (by omega) (by omega) (by simp only [icN, not_true_eq_false, not_false_eq_true] <;> omega) | exact ic_F0 (by omega) (by simp only [icN, not_true_eq_false, not_false_eq_true] <;> omega)) ?_
        refine R_aload_n rfl rfl ?_
        refine R_getA rfl rfl (Or.inl rfl) ?_
        refine R_iload rfl rfl ?_
        refine R_iald rfl rfl rfl (show _ < 1500 from by omega) ?_
        try refine R_top (y := nI _) (by assumption) ?_
        refine R_aload_n rfl rfl ?_
        refine R_getA rfl rfl (Or.inl rfl) ?_
        refine R_iload_n rfl rfl ?_
        refine R_iald rfl rfl rfl (show _ < 2000 from by omega) ?_
        try refine R_top (y := nI _) (by assumption) ?_
        refine R_icF rfl (by first | assumption | exact icF (by decide) | exact ic_F (by omega) (by omega) (by simp only [icN, not_true_eq_false, not_false_eq_true] <;> omega) | exact ic_F0 (by omega) (by simp only [icN, not_true_eq_false, not_false_eq_true] <;> omega)) ?_
        refine R_iconst (y := nI 0) rfl (by decide) ?_
        exact R_iret rfl rfl (by first | trivial | exact Or.inl rfl | exact Or.inr rfl | assumption) ⟨rfl, rfl⟩
/-- what stands above a value -/
def abv (M : Mem) (k : Nat) (y : Int32) : Int32 := if k = 2 then M 31 y.toNatClampNeg else M 25 k
theorem r_isCalm {d : Nat} {M : Mem} {lv : Nat → Prop} {rk : Nat → Nat} {a k N : Nat} {y : Int32} (hd : dwn M lv rk) (ha : a < 2000) (hk : k < 4) (hy : k = 2 → ∃ i, i < 1500 ∧ y = nI i) (hc : abv M k y = -1 ∨ ∃ i, lv i ∧ abv M k y = nI i ∧ rk i < N) : CalR (d + 1) j_X9_isCalm [.ref 0, .int (nI a), .int (nI k), .int y] M (some (.int (b2i (clm M (M 51 a) (N + 1) (abv M k y))))) M := by
  by_cases h2 : k = 2
  · obtain ⟨i, hi, rfl⟩ := hy h2
    subst h2
    have e : abv M 2 (nI i) = M 31 i := by unfold abv; rw [if_pos rfl, nI_clamp (by omega)]
    rw [e] at hc ⊢
    refine CalR_of (md := md_X9_isCalm) rfl (Nat.le_of_ble_eq_true rfl) ?_
    show WR (CalR d) t_X9_isCalm 9 (some .boolean) _ 0 [(0, .ref 0), (1, .int (nI a)), (2, .int (nI 2)), (3, .int (nI i))] [] _
    refine R_iload_n rfl rfl ?_
    refine R_iconst (y := nI 2) rfl (by decide) ?_
    refine R_icF rfl (by first | assumption | exact icF (by decide) | exact ic_F (by omega) (by omega) (by simp only [icN, not_true_eq_false, not_false_eq_true] <;> omega) | exact ic_F0 (by omega) (by simp only [icN, not_true_eq_false, not_false_eq_true] <;> omega)) ?_
    refine R_aload_n rfl rfl ?_
    refine R_getA rfl rfl (Or.inl rfl) ?_
    refine R_iload_n rfl rfl ?_
    refine R_iald rfl rfl rfl (show _ < 1500 from by omega) ?_
    try refine R_top (y := nI _) (by assumption) ?_
    refine R_goto (pc' := 20) rfl rfl ?_
    refine R_istore (lv' := [(4, _), (0, _), (1, _), (2, _), (3, _)]) rfl rfl ?_
    exact r_calmL hd ha N _ hc
  · have e : abv M k y = M 25 k := by unfold abv; rw [if_neg h2]
    rw [e] at hc ⊢
    refine CalR_of (md := md_X9_isCalm) rfl (Nat.le_of_ble_eq_true rfl) ?_
    show WR (CalR d) t_X9_isCalm 9 (some .boolean) _ 0 [(0, .ref 0), (1, .int (nI a)), (2, .int (nI k)), (3, .int y)] [] _
    refine R_iload_n rfl rfl ?_
    refine R_iconst (y := nI 2) rfl (by decide) ?_
    refine R_icT (pc' := 14) rfl rfl (by first | assumption | exact icT (by decide) | exact ic_T (by omega) (by omega) (by simp only [icN, not_true_eq_false, not_false_eq_true] <;> omega) | exact ic_T0 (by omega) (by simp only [icN, not_true_eq_false, not_false_eq_true] <;> omega)) ?_
    refine R_aload_n rfl rfl ?_
    refine R_getA rfl rfl (Or.inl rfl) ?_
    refine R_iload_n rfl rfl ?_
    refine R_iald rfl rfl rfl (show _ < 4 from by omega) ?_
    try refine R_top (y := nI _) (by assumption) ?_
    refine R_istore (lv' := [(4, _), (0, _), (1, _), (2, _), (3, _)]) rfl rfl ?_
    exact r_calmL hd ha N _ hc
/-- the site a remembers a value of that shape -/
def rmb (M : Mem) (a k i : Nat) : Prop := M 47 a = nI k ∧ (if k = 2 then (M 49 a = M 32 i ∧ M 48 a = serA M (M 31 i) ∧ ∀ s, s < (M 32 i).toNatClampNeg → M 50 (40 * a + s) = M 34 (40 * i + s)) else M 48 a = serA M (M 25 k))
theorem r_rem1 {d : Nat} {M : Mem} {a k i n : Nat} {y : Int32} (ha : a < 2000) (hk : k < 4) (hp : M 25 k = -1 ∨ ∃ i, i < 1500 ∧ M 25 k = nI i) (hi : i < 1500) (hn : M 32 i = nI n) (hn4 : n ≤ 40) (hpi : M 31 i = -1 ∨ ∃ j, j < 1500 ∧ M 31 i = nI j) (hy : k = 2 → y = nI i) (h : rmb M a k i) : CalR (d + 2) j_X9_remembers [.ref 0, .int (nI a), .int (nI k), .int y] M (some (.int 1)) M := by
  obtain ⟨h1, h2⟩ := h
  by_cases hk2 : k = 2
  · have hyy := hy hk2
    subst hk2
    subst hyy
    rw [if_pos rfl] at h2
    obtain ⟨g1, g2, g3⟩ := h2
    rw [hn, nI_clamp (by omega)] at g3
    have hfl := g1.trans hn
    refine CalR_of (md := md_X9_remembers) (d := d + 1) rfl (Nat.le_of_ble_eq_true rfl) ?_
    show WR (CalR (d + 1)) t_X9_remembers 9 (some .boolean) _ 0 [(0, .ref 0), (1, .int (nI a)), (2, .int (nI 2)), (3, .int (nI i))] [] _
    refine R_aload_n rfl rfl ?_
    refine R_getA rfl rfl (Or.inl rfl) ?_
    refine R_iload_n rfl rfl ?_
    refine R_iald rfl rfl rfl (show _ < 2000 from by omega) ?_
    try refine R_top (y := nI _) (by assumption) ?_
    refine R_iload_n rfl rfl ?_
    refine R_icT (pc' := 12) rfl rfl (by first | assumption | exact icT (by decide) | exact ic_T (by omega) (by omega) (by simp only [icN, not_true_eq_false, not_false_eq_true] <;> omega) | exact ic_T0 (by omega) (by simp only [icN, not_true_eq_false, not_false_eq_true] <;> omega)) ?_
    refine R_iload_n rfl rfl ?_
    refine R_iconst (y := nI 2) rfl (by decide) ?_
    refine R_icT (pc' := 42) rfl rfl (by first | assumption | exact icT (by decide) | exact ic_T (by omega) (by omega) (by simp only [icN, not_true_eq_false, not_false_eq_true] <;> omega) | exact ic_T0 (by omega) (by simp only [icN, not_true_eq_false, not_false_eq_true] <;> omega)) ?_
    refine R_aload_n rfl rfl ?_
    refine R_getA rfl rfl (Or.inl rfl) ?_
    refine R_iload_n rfl rfl ?_
    refine R_iald rfl rfl rfl (show _ < 2000 from by omega) ?_
    try refine R_top (y := nI _) (by assumption) ?_
    refine R_aload_n rfl rfl ?_
    refine R_getA rfl rfl (Or.inl rfl) ?_
    refine R_iload_n rfl rfl ?_
    refine R_iald rfl rfl rfl (show _ < 1500 from by omega) ?_
    try refine R_top (y := nI _) (by assumption) ?_
    refine R_icF rfl (by first | assumption | exact icF (by decide) | exact ic_F (by omega) (by omega) (by simp only [icN, not_true_eq_false, not_false_eq_true] <;> omega) | exact ic_F0 (by omega) (by simp only [icN, not_true_eq_false, not_false_eq_true] <;> omega)) ?_
    refine R_aload_n rfl rfl ?_
    refine R_getA rfl rfl (Or.inl rfl) ?_
    refine R_iload_n rfl rfl ?_
    refine R_iald rfl rfl rfl (show _ < 2000 from by omega) ?_
    try refine R_top (y := nI _) (by assumption) ?_
    refine R_aload_n rfl rfl ?_
    refine R_aload_n rfl rfl ?_
    refine R_getA rfl rfl (Or.inl rfl) ?_
    refine R_iload_n rfl rfl ?_
    refine R_iald rfl rfl rfl (show _ < 1500 from by omega) ?_
    try refine R_top (y := nI _) (by assumption) ?_
    refine R_virt rfl rfl rfl rfl rfl rfl rfl (Nat.le_of_ble_eq_true rfl) (fun _ q => by cases q) (r_ser hpi) ?_
    try refine R_top (y := nI _) (by assumption) ?_
    refine R_icF rfl (fun q => q g2) ?_
    refine R_iconst (y := nI 1) rfl (by decide) ?_
    refine R_goto (pc' := 81) rfl rfl ?_
    refine R_istore (lv' := [(4, _), (0, _), (1, _), (2, _), (3, _)]) rfl rfl ?_
    refine R_iconst (y := nI 0) rfl (by decide) ?_
    refine R_istore (lv' := [(5, _), (4, _), (0, _), (1, _), (2, _), (3, _)]) rfl rfl ?_
    refine dn_up (P := fun s => WR (CalR (d + 1)) t_X9_remembers 9 (some .boolean) (fun v' M' => v' = some (.int 1) ∧ M' = M) 86 [(5, .int (nI s)), (4, .int (nI 1)), (0, .ref 0), (1, .int (nI a)), (2, .int (nI 2)), (3, .int (nI i))] [] M) (N := n) ?_ ?_ 0 (Nat.zero_le _)
    · refine R_iload rfl rfl ?_
      refine R_aload_n rfl rfl ?_
      refine R_getA rfl rfl (Or.inl rfl) ?_
      refine R_iload_n rfl rfl ?_
      refine R_iald rfl rfl rfl (show _ < 1500 from by omega) ?_
      try refine R_top (y := nI _) (by assumption) ?_
      refine R_icT (pc' := 142) rfl rfl (by first | assumption | exact icT (by decide) | exact ic_T (by omega) (by omega) (by simp only [icN, not_true_eq_false, not_false_eq_true] <;> omega) | exact ic_T0 (by omega) (by simp only [icN, not_true_eq_false, not_false_eq_true] <;> omega)) ?_
      refine R_iload rfl rfl ?_
      exact R_iret rfl rfl (by first | trivial | exact Or.inl rfl | exact Or.inr rfl | assumption) ⟨rfl, rfl⟩
    · intro s hs nx
      have gs := g3 s hs
      refine R_iload rfl rfl ?_
      refine R_aload_n rfl rfl ?_
      refine R_getA rfl rfl (Or.inl rfl) ?_
      refine R_iload_n rfl rfl ?_
      refine R_iald rfl rfl rfl (show _ < 1500 from by omega) ?_
      try refine R_top (y := nI _) (by assumption) ?_
      refine R_icF rfl (by first | assumption | exact icF (by decide) | exact ic_F (by omega) (by omega) (by simp only [icN, not_true_eq_false, not_false_eq_true] <;> omega) | exact ic_F0 (by omega) (by simp only [icN, not_true_eq_false, not_false_eq_true] <;> omega)) ?_
      refine R_iload rfl rfl ?_
      refine R_ifF rfl (by first | assumption | exact icF (by decide) | exact ic_F (by omega) (by omega) (by simp only [icN, not_true_eq_false, not_false_eq_true] <;> omega) | exact ic_F0 (by omega) (by simp only [icN, not_true_eq_false, not_false_eq_true] <;> omega)) ?_
      refine R_aload_n rfl rfl ?_
      refine R_getA rfl rfl (Or.inl rfl) ?_
      refine R_bipush (y := nI 40) rfl (by decide) ?_
      refine R_iload_n rfl rfl ?_
      first | refine R_imulN rfl ?_ | refine R_imul rfl ?_
      refine R_iload rfl rfl ?_
      first | refine R_iaddN rfl ?_ | refine R_iadd rfl ?_
      refine R_iald rfl rfl rfl (show _ < 80000 from by omega) ?_
      try refine R_top (y := nI _) (by assumption) ?_
      refine R_aload_n rfl rfl ?_
      refine R_getA rfl rfl (Or.inl rfl) ?_
      refine R_bipush (y := nI 40) rfl (by decide) ?_
      refine R_iload_n rfl rfl ?_
      first | refine R_imulN rfl ?_ | refine R_imul rfl ?_
      refine R_iload rfl rfl ?_
      first | refine R_iaddN rfl ?_ | refine R_iadd rfl ?_
      refine R_iald rfl rfl rfl (show _ < 60000 from by omega) ?_
      try refine R_top (y := nI _) (by assumption) ?_
      refine R_icF rfl (fun q => q gs) ?_
      refine R_iconst (y := nI 1) rfl (by decide) ?_
      refine R_goto (pc' := 134) rfl rfl ?_
      refine R_istore (lv' := [(4, _), (5, _), (0, _), (1, _), (2, _), (3, _)]) rfl rfl ?_
      refine R_iinc (lv' := [(5, _), (4, _), (0, _), (1, _), (2, _), (3, _)]) rfl rfl (by exact nI_1 _) rfl ?_
      refine R_goto (pc' := 86) rfl rfl ?_
      exact nx
  · rw [if_neg hk2] at h2
    refine CalR_of (md := md_X9_remembers) (d := d + 1) rfl (Nat.le_of_ble_eq_true rfl) ?_
    show WR (CalR (d + 1)) t_X9_remembers 9 (some .boolean) _ 0 [(0, .ref 0), (1, .int (nI a)), (2, .int (nI k)), (3, .int y)] [] _
    refine R_aload_n rfl rfl ?_
    refine R_getA rfl rfl (Or.inl rfl) ?_
    refine R_iload_n rfl rfl ?_
    refine R_iald rfl rfl rfl (show _ < 2000 from by omega) ?_
    try refine R_top (y := nI _) (by assumption) ?_
    refine R_iload_n rfl rfl ?_
    refine R_icT (pc' := 12) rfl rfl (by first | assumption | exact icT (by decide) | exact ic_T (by omega) (by omega) (by simp only [icN, not_true_eq_false, not_false_eq_true] <;> omega) | exact ic_T0 (by omega) (by simp only [icN, not_true_eq_false, not_false_eq_true] <;> omega)) ?_
    refine R_iload_n rfl rfl ?_
    refine R_iconst (y := nI 2) rfl (by decide) ?_
    refine R_icF rfl (by first | assumption | exact icF (by decide) | exact ic_F (by omega) (by omega) (by simp only [icN, not_true_eq_false, not_false_eq_true] <;> omega) | exact ic_F0 (by omega) (by simp only [icN, not_true_eq_false, not_false_eq_true] <;> omega)) ?_
    refine R_aload_n rfl rfl ?_
    refine R_getA rfl rfl (Or.inl rfl) ?_
    refine R_iload_n rfl rfl ?_
    refine R_iald rfl rfl rfl (show _ < 2000 from by omega) ?_
    try refine R_top (y := nI _) (by assumption) ?_
    refine R_aload_n rfl rfl ?_
    refine R_aload_n rfl rfl ?_
    refine R_getA rfl rfl (Or.inl rfl) ?_
    refine R_iload_n rfl rfl ?_
    refine R_iald rfl rfl rfl (show _ < 4 from by omega) ?_
    try refine R_top (y := nI _) (by assumption) ?_
    refine R_virt rfl rfl rfl rfl rfl rfl rfl (Nat.le_of_ble_eq_true rfl) (fun _ q => by cases q) (r_ser hp) ?_
    try refine R_top (y := nI _) (by assumption) ?_
    refine R_icF rfl (fun q => q h2) ?_
    refine R_iconst (y := nI 1) rfl (by decide) ?_
    refine R_goto (pc' := 41) rfl rfl ?_
    exact R_iret rfl rfl (by first | trivial | exact Or.inl rfl | exact Or.inr rfl | assumption) ⟨rfl, rfl⟩
theorem r_rem0 {d : Nat} {M : Mem} {a k i n : Nat} {y : Int32} (ha : a < 2000) (hk : k < 4) (hp : M 25 k = -1 ∨ ∃ i, i < 1500 ∧ M 25 k = nI i) (hi : i < 1500) (hn : M 32 i = nI n) (hn4 : n ≤ 40) (hpi : M 31 i = -1 ∨ ∃ j, j < 1500 ∧ M 31 i = nI j) (hy : k = 2 → y = nI i) (h : ¬ rmb M a k i) : CalR (d + 2) j_X9_remembers [.ref 0, .int (nI a), .int (nI k), .int y] M (some (.int 0)) M := by
  by_cases h1 : M 47 a = nI k
  · by_cases hk2 : k = 2
    · have hyy := hy hk2
      subst hk2
      subst hyy
      have h2 : ¬ (M 49 a = M 32 i ∧ M 48 a = serA M (M 31 i) ∧ ∀ s, s < (M 32 i).toNatClampNeg → M 50 (40 * a + s) = M 34 (40 * i + s)) := fun q => h ⟨h1, by rw [if_pos rfl]; exact q⟩
      rw [hn, nI_clamp (by omega)] at h2
      have fin : ∀ s x5, s ≤ n → WR (CalR (d + 1)) t_X9_remembers 9 (some .boolean) (fun v' M' => v' = some (.int 0) ∧ M' = M) 86 [(5, .int (nI s)), (4, .int (nI 0)), (0, .ref 0), (1, .int (nI a)), (2, .int (nI 2)), (3, .int (nI i))] x5 M ∨ ¬ x5 = [] := by
        intro s x5 hs
        by_cases hx : x5 = []
        · subst hx
          refine Or.inl ?_
          by_cases hsn : s = n
          · subst hsn
            refine R_iload rfl rfl ?_
            refine R_aload_n rfl rfl ?_
            refine R_getA rfl rfl (Or.inl rfl) ?_
            refine R_iload_n rfl rfl ?_
            refine R_iald rfl rfl rfl (show _ < 1500 from by omega) ?_
            try refine R_top (y := nI _) (by assumption) ?_
            refine R_icT (pc' := 142) rfl rfl (by first | assumption | exact icT (by decide) | exact ic_T (by omega) (by omega) (by simp only [icN, not_true_eq_false, not_false_eq_true] <;> omega) | exact ic_T0 (by omega) (by simp only [icN, not_true_eq_false, not_false_eq_true] <;> omega)) ?_
            refine R_iload rfl rfl ?_
            exact R_iret rfl rfl (by first | trivial | exact Or.inl rfl | exact Or.inr rfl | assumption) ⟨rfl, rfl⟩
          · refine R_iload rfl rfl ?_
            refine R_aload_n rfl rfl ?_
            refine R_getA rfl rfl (Or.inl rfl) ?_
            refine R_iload_n rfl rfl ?_
            refine R_iald rfl rfl rfl (show _ < 1500 from by omega) ?_
            try refine R_top (y := nI _) (by assumption) ?_
            refine R_icF rfl (by first | assumption | exact icF (by decide) | exact ic_F (by omega) (by omega) (by simp only [icN, not_true_eq_false, not_false_eq_true] <;> omega) | exact ic_F0 (by omega) (by simp only [icN, not_true_eq_false, not_false_eq_true] <;> omega)) ?_
            refine R_iload rfl rfl ?_
            refine R_ifT (pc' := 142) rfl rfl (by first | assumption | exact icT (by decide) | exact ic_T (by omega) (by omega) (by simp only [icN, not_true_eq_false, not_false_eq_true] <;> omega) | exact ic_T0 (by omega) (by simp only [icN, not_true_eq_false, not_false_eq_true] <;> omega)) ?_
            refine R_iload rfl rfl ?_
            exact R_iret rfl rfl (by first | trivial | exact Or.inl rfl | exact Or.inr rfl | assumption) ⟨rfl, rfl⟩
        · exact Or.inr hx
      have fin2 : ∀ s, s ≤ n → WR (CalR (d + 1)) t_X9_remembers 9 (some .boolean) (fun v' M' => v' = some (.int 0) ∧ M' = M) 86 [(5, .int (nI s)), (4, .int (nI 0)), (0, .ref 0), (1, .int (nI a)), (2, .int (nI 2)), (3, .int (nI i))] [] M := fun s hs => (fin s [] hs).resolve_right (fun q => q rfl)
      refine CalR_of (md := md_X9_remembers) (d := d + 1) rfl (Nat.le_of_ble_eq_true rfl) ?_
      show WR (CalR (d + 1)) t_X9_remembers 9 (some .boolean) _ 0 [(0, .ref 0), (1, .int (nI a)), (2, .int (nI 2)), (3, .int (nI i))] [] _
      by_cases g1 : M 49 a = nI n
      · by_cases g2 : M 48 a = serA M (M 31 i)
        · have hex : ∃ s, s < n ∧ ¬ M 50 (40 * a + s) = M 34 (40 * i + s) := Classical.byContradiction (fun q => h2 ⟨g1, g2, fun s hs => Classical.byContradiction (fun r => q ⟨s, hs, r⟩)⟩)
          obtain ⟨s0, ⟨hs0, hne⟩, hlt⟩ := pk_least (fun s => s < n ∧ ¬ M 50 (40 * a + s) = M 34 (40 * i + s)) hex
          refine R_aload_n rfl rfl ?_
          refine R_getA rfl rfl (Or.inl rfl) ?_
          refine R_iload_n rfl rfl ?_
          refine R_iald rfl rfl rfl (show _ < 2000 from by omega) ?_
          try refine R_top (y := nI _) (by assumption) ?_
          refine R_iload_n rfl rfl ?_
          refine R_icT (pc' := 12) rfl rfl (by first | assumption | exact icT (by decide) | exact ic_T (by omega) (by omega) (by simp only [icN, not_true_eq_false, not_false_eq_true] <;> omega) | exact ic_T0 (by omega) (by simp only [icN, not_true_eq_false, not_false_eq_true] <;> omega)) ?_
          refine R_iload_n rfl rfl ?_
          refine R_iconst (y := nI 2) rfl (by decide) ?_
          refine R_icT (pc' := 42) rfl rfl (by first | assumption | exact icT (by decide) | exact ic_T (by omega) (by omega) (by simp only [icN, not_true_eq_false, not_false_eq_true] <;> omega) | exact ic_T0 (by omega) (by simp only [icN, not_true_eq_false, not_false_eq_true] <;> omega)) ?_
          refine R_aload_n rfl rfl ?_
          refine R_getA rfl rfl (Or.inl rfl) ?_
          refine R_iload_n rfl rfl ?_
          refine R_iald rfl rfl rfl (show _ < 2000 from by omega) ?_
          try refine R_top (y := nI _) (by assumption) ?_
          refine R_aload_n rfl rfl ?_
          refine R_getA rfl rfl (Or.inl rfl) ?_
          refine R_iload_n rfl rfl ?_
          refine R_iald rfl rfl rfl (show _ < 1500 from by omega) ?_
          try refine R_top (y := nI _) (by assumption) ?_
          refine R_icF rfl (by first | assumption | exact icF (by decide) | exact ic_F (by omega) (by omega) (by simp only [icN, not_true_eq_false, not_false_eq_true] <;> omega) | exact ic_F0 (by omega) (by simp only [icN, not_true_eq_false, not_false_eq_true] <;> omega)) ?_
          refine R_aload_n rfl rfl ?_
          refine R_getA rfl rfl (Or.inl rfl) ?_
          refine R_iload_n rfl rfl ?_
          refine R_iald rfl rfl rfl (show _ < 2000 from by omega) ?_
          try refine R_top (y := nI _) (by assumption) ?_
          refine R_aload_n rfl rfl ?_
          refine R_aload_n rfl rfl ?_
          refine R_getA rfl rfl (Or.inl rfl) ?_
          refine R_iload_n rfl rfl ?_
          refine R_iald rfl rfl rfl (show _ < 1500 from by omega) ?_
          try refine R_top (y := nI _) (by assumption) ?_
          refine R_virt rfl rfl rfl rfl rfl rfl rfl (Nat.le_of_ble_eq_true rfl) (fun _ q => by cases q) (r_ser hpi) ?_
          try refine R_top (y := nI _) (by assumption) ?_
          refine R_icF rfl (fun q => q g2) ?_
          refine R_iconst (y := nI 1) rfl (by decide) ?_
          refine R_goto (pc' := 81) rfl rfl ?_
          refine R_istore (lv' := [(4, _), (0, _), (1, _), (2, _), (3, _)]) rfl rfl ?_
          refine R_iconst (y := nI 0) rfl (by decide) ?_
          refine R_istore (lv' := [(5, _), (4, _), (0, _), (1, _), (2, _), (3, _)]) rfl rfl ?_
          refine dn_up (P := fun s => WR (CalR (d + 1)) t_X9_remembers 9 (some .boolean) (fun v' M' => v' = some (.int 0) ∧ M' = M) 86 [(5, .int (nI s)), (4, .int (nI 1)), (0, .ref 0), (1, .int (nI a)), (2, .int (nI 2)), (3, .int (nI i))] [] M) (N := s0) ?_ ?_ 0 (Nat.zero_le _)
          · refine R_iload rfl rfl ?_
            refine R_aload_n rfl rfl ?_
            refine R_getA rfl rfl (Or.inl rfl) ?_
            refine R_iload_n rfl rfl ?_
            refine R_iald rfl rfl rfl (show _ < 1500 from by omega) ?_
            try refine R_top (y := nI _) (by assumption) ?_
            refine R_icF rfl (by first | assumption | exact icF (by decide) | exact ic_F (by omega) (by omega) (by simp only [icN, not_true_eq_false, not_false_eq_true] <;> omega) | exact ic_F0 (by omega) (by simp only [icN, not_true_eq_false, not_false_eq_true] <;> omega)) ?_
            refine R_iload rfl rfl ?_
            refine R_ifF rfl (by first | assumption | exact icF (by decide) | exact ic_F (by omega) (by omega) (by simp only [icN, not_true_eq_false, not_false_eq_true] <;> omega) | exact ic_F0 (by omega) (by simp only [icN, not_true_eq_false, not_false_eq_true] <;> omega)) ?_
            refine R_aload_n rfl rfl ?_
            refine R_getA rfl rfl (Or.inl rfl) ?_
            refine R_bipush (y := nI 40) rfl (by decide) ?_
            refine R_iload_n rfl rfl ?_
            first | refine R_imulN rfl ?_ | refine R_imul rfl ?_
            refine R_iload rfl rfl ?_
            first | refine R_iaddN rfl ?_ | refine R_iadd rfl ?_
            refine R_iald rfl rfl rfl (show _ < 80000 from by omega) ?_
            try refine R_top (y := nI _) (by assumption) ?_
            refine R_aload_n rfl rfl ?_
            refine R_getA rfl rfl (Or.inl rfl) ?_
            refine R_bipush (y := nI 40) rfl (by decide) ?_
            refine R_iload_n rfl rfl ?_
            first | refine R_imulN rfl ?_ | refine R_imul rfl ?_
            refine R_iload rfl rfl ?_
            first | refine R_iaddN rfl ?_ | refine R_iadd rfl ?_
            refine R_iald rfl rfl rfl (show _ < 60000 from by omega) ?_
            try refine R_top (y := nI _) (by assumption) ?_
            refine R_icT (pc' := 133) rfl rfl hne ?_
            refine R_iconst (y := nI 0) rfl (by decide) ?_
            refine R_istore (lv' := [(4, _), (5, _), (0, _), (1, _), (2, _), (3, _)]) rfl rfl ?_
            refine R_iinc (lv' := [(5, _), (4, _), (0, _), (1, _), (2, _), (3, _)]) rfl rfl (by exact nI_1 _) rfl ?_
            refine R_goto (pc' := 86) rfl rfl ?_
            exact fin2 (s0 + 1) (by omega)
          · intro s hs nx
            have gs : M 50 (40 * a + s) = M 34 (40 * i + s) := Classical.byContradiction (fun q => hlt s hs ⟨by omega, q⟩)
            refine R_iload rfl rfl ?_
            refine R_aload_n rfl rfl ?_
            refine R_getA rfl rfl (Or.inl rfl) ?_
            refine R_iload_n rfl rfl ?_
            refine R_iald rfl rfl rfl (show _ < 1500 from by omega) ?_
            try refine R_top (y := nI _) (by assumption) ?_
            refine R_icF rfl (by first | assumption | exact icF (by decide) | exact ic_F (by omega) (by omega) (by simp only [icN, not_true_eq_false, not_false_eq_true] <;> omega) | exact ic_F0 (by omega) (by simp only [icN, not_true_eq_false, not_false_eq_true] <;> omega)) ?_
            refine R_iload rfl rfl ?_
            refine R_ifF rfl (by first | assumption | exact icF (by decide) | exact ic_F (by omega) (by omega) (by simp only [icN, not_true_eq_false, not_false_eq_true] <;> omega) | exact ic_F0 (by omega) (by simp only [icN, not_true_eq_false, not_false_eq_true] <;> omega)) ?_
            refine R_aload_n rfl rfl ?_
            refine R_getA rfl rfl (Or.inl rfl) ?_
            refine R_bipush (y := nI 40) rfl (by decide) ?_
            refine R_iload_n rfl rfl ?_
            first | refine R_imulN rfl ?_ | refine R_imul rfl ?_
            refine R_iload rfl rfl ?_
            first | refine R_iaddN rfl ?_ | refine R_iadd rfl ?_
            refine R_iald rfl rfl rfl (show _ < 80000 from by omega) ?_
            try refine R_top (y := nI _) (by assumption) ?_
            refine R_aload_n rfl rfl ?_
            refine R_getA rfl rfl (Or.inl rfl) ?_
            refine R_bipush (y := nI 40) rfl (by decide) ?_
            refine R_iload_n rfl rfl ?_
            first | refine R_imulN rfl ?_ | refine R_imul rfl ?_
            refine R_iload rfl rfl ?_
            first | refine R_iaddN rfl ?_ | refine R_iadd rfl ?_
            refine R_iald rfl rfl rfl (show _ < 60000 from by omega) ?_
            try refine R_top (y := nI _) (by assumption) ?_
            refine R_icF rfl (fun q => q gs) ?_
            refine R_iconst (y := nI 1) rfl (by decide) ?_
            refine R_goto (pc' := 134) rfl rfl ?_
            refine R_istore (lv' := [(4, _), (5, _), (0, _), (1, _), (2, _), (3, _)]) rfl rfl ?_
            refine R_iinc (lv' := [(5, _), (4, _), (0, _), (1, _), (2, _), (3, _)]) rfl rfl (by exact nI_1 _) rfl ?_
            refine R_goto (pc' := 86) rfl rfl ?_
            exact nx
        · refine R_aload_n rfl rfl ?_
          refine R_getA rfl rfl (Or.inl rfl) ?_
          refine R_iload_n rfl rfl ?_
          refine R_iald rfl rfl rfl (show _ < 2000 from by omega) ?_
          try refine R_top (y := nI _) (by assumption) ?_
          refine R_iload_n rfl rfl ?_
          refine R_icT (pc' := 12) rfl rfl (by first | assumption | exact icT (by decide) | exact ic_T (by omega) (by omega) (by simp only [icN, not_true_eq_false, not_false_eq_true] <;> omega) | exact ic_T0 (by omega) (by simp only [icN, not_true_eq_false, not_false_eq_true] <;> omega)) ?_
          refine R_iload_n rfl rfl ?_
          refine R_iconst (y := nI 2) rfl (by decide) ?_
          refine R_icT (pc' := 42) rfl rfl (by first | assumption | exact icT (by decide) | exact ic_T (by omega) (by omega) (by simp only [icN, not_true_eq_false, not_false_eq_true] <;> omega) | exact ic_T0 (by omega) (by simp only [icN, not_true_eq_false, not_false_eq_true] <;> omega)) ?_
          refine R_aload_n rfl rfl ?_
          refine R_getA rfl rfl (Or.inl rfl) ?_
          refine R_iload_n rfl rfl ?_
          refine R_iald rfl rfl rfl (show _ < 2000 from by omega) ?_
          try refine R_top (y := nI _) (by assumption) ?_
          refine R_aload_n rfl rfl ?_
          refine R_getA rfl rfl (Or.inl rfl) ?_
          refine R_iload_n rfl rfl ?_
          refine R_iald rfl rfl rfl (show _ < 1500 from by omega) ?_
          try refine R_top (y := nI _) (by assumption) ?_
          refine R_icF rfl (by first | assumption | exact icF (by decide) | exact ic_F (by omega) (by omega) (by simp only [icN, not_true_eq_false, not_false_eq_true] <;> omega) | exact ic_F0 (by omega) (by simp only [icN, not_true_eq_false, not_false_eq_true] <;> omega)) ?_
          refine R_aload_n rfl rfl ?_
          refine R_getA rfl rfl (Or.inl rfl) ?_
          refine R_iload_n rfl rfl ?_
          refine R_iald rfl rfl rfl (show _ < 2000 from by omega) ?_
          try refine R_top (y := nI _) (by assumption) ?_
          refine R_aload_n rfl rfl ?_
          refine R_aload_n rfl rfl ?_
          refine R_getA rfl rfl (Or.inl rfl) ?_
          refine R_iload_n rfl rfl ?_
          refine R_iald rfl rfl rfl (show _ < 1500 from by omega) ?_
          try refine R_top (y := nI _) (by assumption) ?_
          refine R_virt rfl rfl rfl rfl rfl rfl rfl (Nat.le_of_ble_eq_true rfl) (fun _ q => by cases q) (r_ser hpi) ?_
          try refine R_top (y := nI _) (by assumption) ?_
          refine R_icT (pc' := 80) rfl rfl (g2) ?_
          refine R_iconst (y := nI 0) rfl (by decide) ?_
          refine R_istore (lv' := [(4, _), (0, _), (1, _), (2, _), (3, _)]) rfl rfl ?_
          refine R_iconst (y := nI 0) rfl (by decide) ?_
          refine R_istore (lv' := [(5, _), (4, _), (0, _), (1, _), (2, _), (3, _)]) rfl rfl ?_
          exact fin2 0 (Nat.zero_le _)
      · refine R_aload_n rfl rfl ?_
        refine R_getA rfl rfl (Or.inl rfl) ?_
        refine R_iload_n rfl rfl ?_
        refine R_iald rfl rfl rfl (show _ < 2000 from by omega) ?_
        try refine R_top (y := nI _) (by assumption) ?_
        refine R_iload_n rfl rfl ?_
        refine R_icT (pc' := 12) rfl rfl (by first | assumption | exact icT (by decide) | exact ic_T (by omega) (by omega) (by simp only [icN, not_true_eq_false, not_false_eq_true] <;> omega) | exact ic_T0 (by omega) (by simp only [icN, not_true_eq_false, not_false_eq_true] <;> omega)) ?_
        refine R_iload_n rfl rfl ?_
        refine R_iconst (y := nI 2) rfl (by decide) ?_
        refine R_icT (pc' := 42) rfl rfl (by first | assumption | exact icT (by decide) | exact ic_T (by omega) (by omega) (by simp only [icN, not_true_eq_false, not_false_eq_true] <;> omega) | exact ic_T0 (by omega) (by simp only [icN, not_true_eq_false, not_false_eq_true] <;> omega)) ?_
        refine R_aload_n rfl rfl ?_
        refine R_getA rfl rfl (Or.inl rfl) ?_
        refine R_iload_n rfl rfl ?_
        refine R_iald rfl rfl rfl (show _ < 2000 from by omega) ?_
        try refine R_top (y := nI _) (by assumption) ?_
        refine R_aload_n rfl rfl ?_
        refine R_getA rfl rfl (Or.inl rfl) ?_
        refine R_iload_n rfl rfl ?_
        refine R_iald rfl rfl rfl (show _ < 1500 from by omega) ?_
        try refine R_top (y := nI _) (by assumption) ?_
        refine R_icT (pc' := 80) rfl rfl (by first | assumption | exact icT (by decide) | exact ic_T (by omega) (by omega) (by simp only [icN, not_true_eq_false, not_false_eq_true] <;> omega) | exact ic_T0 (by omega) (by simp only [icN, not_true_eq_false, not_false_eq_true] <;> omega)) ?_
        refine R_iconst (y := nI 0) rfl (by decide) ?_
        refine R_istore (lv' := [(4, _), (0, _), (1, _), (2, _), (3, _)]) rfl rfl ?_
        refine R_iconst (y := nI 0) rfl (by decide) ?_
        refine R_istore (lv' := [(5, _), (4, _), (0, _), (1, _), (2, _), (3, _)]) rfl rfl ?_
        exact fin2 0 (Nat.zero_le _)
    · have h2 : ¬ M 48 a = serA M (M 25 k) := fun q => h ⟨h1, by rw [if_neg hk2]; exact q⟩
      refine CalR_of (md := md_X9_remembers) (d := d + 1) rfl (Nat.le_of_ble_eq_true rfl) ?_
      show WR (CalR (d + 1)) t_X9_remembers 9 (some .boolean) _ 0 [(0, .ref 0), (1, .int (nI a)), (2, .int (nI k)), (3, .int y)] [] _
      refine R_aload_n rfl rfl ?_
      refine R_getA rfl rfl (Or.inl rfl) ?_
      refine R_iload_n rfl rfl ?_
      refine R_iald rfl rfl rfl (show _ < 2000 from by omega) ?_
      try refine R_top (y := nI _) (by assumption) ?_
      refine R_iload_n rfl rfl ?_
      refine R_icT (pc' := 12) rfl rfl (by first | assumption | exact icT (by decide) | exact ic_T (by omega) (by omega) (by simp only [icN, not_true_eq_false, not_false_eq_true] <;> omega) | exact ic_T0 (by omega) (by simp only [icN, not_true_eq_false, not_false_eq_true] <;> omega)) ?_
      refine R_iload_n rfl rfl ?_
      refine R_iconst (y := nI 2) rfl (by decide) ?_
      refine R_icF rfl (by first | assumption | exact icF (by decide) | exact ic_F (by omega) (by omega) (by simp only [icN, not_true_eq_false, not_false_eq_true] <;> omega) | exact ic_F0 (by omega) (by simp only [icN, not_true_eq_false, not_false_eq_true] <;> omega)) ?_
      refine R_aload_n rfl rfl ?_
      refine R_getA rfl rfl (Or.inl rfl) ?_
      refine R_iload_n rfl rfl ?_
      refine R_iald rfl rfl rfl (show _ < 2000 from by omega) ?_
      try refine R_top (y := nI _) (by assumption) ?_
      refine R_aload_n rfl rfl ?_
      refine R_aload_n rfl rfl ?_
      refine R_getA rfl rfl (Or.inl rfl) ?_
      refine R_iload_n rfl rfl ?_
      refine R_iald rfl rfl rfl (show _ < 4 from by omega) ?_
      try refine R_top (y := nI _) (by assumption) ?_
      refine R_virt rfl rfl rfl rfl rfl rfl rfl (Nat.le_of_ble_eq_true rfl) (fun _ q => by cases q) (r_ser hp) ?_
      try refine R_top (y := nI _) (by assumption) ?_
      refine R_icT (pc' := 40) rfl rfl (h2) ?_
      refine R_iconst (y := nI 0) rfl (by decide) ?_
      exact R_iret rfl rfl (by first | trivial | exact Or.inl rfl | exact Or.inr rfl | assumption) ⟨rfl, rfl⟩
  · refine CalR_of (md := md_X9_remembers) (d := d + 1) rfl (Nat.le_of_ble_eq_true rfl) ?_
    show WR (CalR (d + 1)) t_X9_remembers 9 (some .boolean) _ 0 [(0, .ref 0), (1, .int (nI a)), (2, .int (nI k)), (3, .int y)] [] _
    refine R_aload_n rfl rfl ?_
    refine R_getA rfl rfl (Or.inl rfl) ?_
    refine R_iload_n rfl rfl ?_
    refine R_iald rfl rfl rfl (show _ < 2000 from by omega) ?_
    try refine R_top (y := nI _) (by assumption) ?_
    refine R_iload_n rfl rfl ?_
    refine R_icF rfl (h1) ?_
    refine R_iconst (y := nI 0) rfl (by decide) ?_
    exact R_iret rfl rfl (by first | trivial | exact Or.inl rfl | exact Or.inr rfl | assumption) ⟨rfl, rfl⟩
