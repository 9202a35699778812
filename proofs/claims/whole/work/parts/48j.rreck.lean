/-! ===== the reference: reckon ===== -/
theorem lgc_0 {x : Int64} : lg_cmp x 0 = 0 ↔ x = 0 := by
  unfold lg_cmp
  by_cases h : x > 0
  · rw [if_pos h]
    constructor
    · intro q; exact absurd q (by decide)
    · intro q; subst q; exact absurd h (by decide)
  · rw [if_neg h]
    by_cases h2 : x = 0
    · rw [if_pos h2]; exact ⟨fun _ => h2, fun _ => rfl⟩
    · rw [if_neg h2]
      constructor
      · intro q; exact absurd q (by decide)
      · intro q; exact absurd q h2
theorem i64z {x : Int32} (h : x.toInt64 = 0) : x = 0 := by
  have := congrArg Int64.toInt h
  rw [Int32.toInt_toInt64] at this
  exact Int32.toInt_inj.mp this
/-- out of the ints -/
def ovr (r : Int64) : Prop := lg_cmp r (-1073741824) < 0 ∨ ¬ lg_cmp r 1073741823 ≤ 0
def arR (o : Nat) (x y : Int64) : Int64 := if o = 6 then x + y else if o = 7 then x - y else if o = 8 then x * y else if o = 9 then x / y else if o = 10 then x - x / y * y else if 0 ≤ lg_cmp x y then 0 else 1
theorem r_reckonK {d : Nat} {M : Mem} {p : Nat} {o : Int32} (hp : M 14 0 = nI p) (hp1 : p ≤ 1000) (hp0 : 1 < p) (hk : ¬ (M 12 (p - 1 - 1) = nI 1 ∧ M 12 (p - 1 - 0) = nI 1)) : CalR (d + 2) j_X9_reckon [.ref 0, .int o] M (some (.int (nI 3))) (up2 M 9 0 (nI 3)) := by
  by_cases h1 : M 12 (p - 1 - 1) = nI 1
  · have h2 : ¬ M 12 (p - 1 - 0) = nI 1 := fun q => hk ⟨h1, q⟩
    refine CalR_of (md := md_X9_reckon) (d := d + 1) rfl (Nat.le_of_ble_eq_true rfl) ?_
    show WR (CalR (d + 1)) t_X9_reckon 9 (some .int) _ 0 [(0, .ref 0), (1, .int o)] [] _
    refine R_aload_n rfl rfl ?_
    refine R_iconst (y := nI 1) rfl (by decide) ?_
    refine R_virt rfl rfl rfl rfl rfl rfl rfl (Nat.le_of_ble_eq_true rfl) (fun _ q => by cases q) (r_topKind (by first | assumption | rfl) (by omega) (by omega)) ?_
    try refine R_top (y := nI _) (by assumption) ?_
    refine R_iconst (y := nI 1) rfl (by decide) ?_
    refine R_icF rfl (by first | assumption | exact icF (by decide) | exact ic_F (by omega) (by omega) (by simp only [icN, not_true_eq_false, not_false_eq_true] <;> omega) | exact ic_F0 (by omega) (by simp only [icN, not_true_eq_false, not_false_eq_true] <;> omega)) ?_
    refine R_aload_n rfl rfl ?_
    refine R_iconst (y := nI 0) rfl (by decide) ?_
    refine R_virt rfl rfl rfl rfl rfl rfl rfl (Nat.le_of_ble_eq_true rfl) (fun _ q => by cases q) (r_topKind (by first | assumption | rfl) (by omega) (by omega)) ?_
    try refine R_top (y := nI _) (by assumption) ?_
    refine R_iconst (y := nI 1) rfl (by decide) ?_
    refine R_icF rfl (by first | assumption | exact icF (by decide) | exact ic_F (by omega) (by omega) (by simp only [icN, not_true_eq_false, not_false_eq_true] <;> omega) | exact ic_F0 (by omega) (by simp only [icN, not_true_eq_false, not_false_eq_true] <;> omega)) ?_
    refine R_aload_n rfl rfl ?_
    refine R_iconst (y := nI 3) rfl (by decide) ?_
    refine R_virt rfl rfl rfl rfl rfl rfl rfl (Nat.le_of_ble_eq_true rfl) (fun _ q => by cases q) (r_ends) ?_
    try refine R_top (y := nI _) (by assumption) ?_
    exact R_iret rfl rfl (by first | trivial | exact Or.inl rfl | exact Or.inr rfl | assumption) ⟨rfl, rfl⟩
  · refine CalR_of (md := md_X9_reckon) (d := d + 1) rfl (Nat.le_of_ble_eq_true rfl) ?_
    show WR (CalR (d + 1)) t_X9_reckon 9 (some .int) _ 0 [(0, .ref 0), (1, .int o)] [] _
    refine R_aload_n rfl rfl ?_
    refine R_iconst (y := nI 1) rfl (by decide) ?_
    refine R_virt rfl rfl rfl rfl rfl rfl rfl (Nat.le_of_ble_eq_true rfl) (fun _ q => by cases q) (r_topKind (by first | assumption | rfl) (by omega) (by omega)) ?_
    try refine R_top (y := nI _) (by assumption) ?_
    refine R_iconst (y := nI 1) rfl (by decide) ?_
    refine R_icT (pc' := 18) rfl rfl (by first | assumption | exact icT (by decide) | exact ic_T (by omega) (by omega) (by simp only [icN, not_true_eq_false, not_false_eq_true] <;> omega) | exact ic_T0 (by omega) (by simp only [icN, not_true_eq_false, not_false_eq_true] <;> omega)) ?_
    refine R_aload_n rfl rfl ?_
    refine R_iconst (y := nI 3) rfl (by decide) ?_
    refine R_virt rfl rfl rfl rfl rfl rfl rfl (Nat.le_of_ble_eq_true rfl) (fun _ q => by cases q) (r_ends) ?_
    try refine R_top (y := nI _) (by assumption) ?_
    exact R_iret rfl rfl (by first | trivial | exact Or.inl rfl | exact Or.inr rfl | assumption) ⟨rfl, rfl⟩
theorem r_reckT {d : Nat} {M M' : Mem} {v : Int32} {p a s : Nat} {r x y : Int64} {o : Int32} (hp : M 14 0 = nI p) (hp1 : p ≤ 1000) (hp0 : 1 < p) (ha : M 10 0 = nI a) (hs : M 11 0 = nI s) (hr : (ovr r ∧ v = nI 6 ∧ M' = up2 M 9 0 (nI 6)) ∨ (¬ ovr r ∧ v = 0 ∧ M' = welM (pushM (lowM M (p - 2)) (p - 2) (nI 1) r.toInt32) (nI (a + 1)) s)) : WR (CalR (d + 1)) t_X9_reckon 9 (some .int) (fun v' M1 => v' = some (.int v) ∧ M1 = M') 141 [(4, .long y), (2, .long x), (0, .ref 0), (1, .int o)] [.long r] M := by
  rcases hr with ⟨h, rfl, rfl⟩ | ⟨h, rfl, rfl⟩
  · rcases h with h | h
    · refine R_lstore (lv' := [(6, _), (4, _), (2, _), (0, _), (1, _)]) rfl rfl ?_
      refine R_lload rfl rfl ?_
      refine R_ldc2_w rfl rfl ?_
      refine R_lcmp rfl ?_
      refine R_ifT (pc' := 161) rfl rfl (by first | assumption | exact icT (by decide) | exact ic_T (by omega) (by omega) (by simp only [icN, not_true_eq_false, not_false_eq_true] <;> omega) | exact ic_T0 (by omega) (by simp only [icN, not_true_eq_false, not_false_eq_true] <;> omega)) ?_
      refine R_aload_n rfl rfl ?_
      refine R_bipush (y := nI 6) rfl (by decide) ?_
      refine R_virt rfl rfl rfl rfl rfl rfl rfl (Nat.le_of_ble_eq_true rfl) (fun _ q => by cases q) (r_ends) ?_
      try refine R_top (y := nI _) (by assumption) ?_
      exact R_iret rfl rfl (by first | trivial | exact Or.inl rfl | exact Or.inr rfl | assumption) ⟨rfl, rfl⟩
    · by_cases h1 : lg_cmp r (-1073741824) < 0
      · refine R_lstore (lv' := [(6, _), (4, _), (2, _), (0, _), (1, _)]) rfl rfl ?_
        refine R_lload rfl rfl ?_
        refine R_ldc2_w rfl rfl ?_
        refine R_lcmp rfl ?_
        refine R_ifT (pc' := 161) rfl rfl (by first | assumption | exact icT (by decide) | exact ic_T (by omega) (by omega) (by simp only [icN, not_true_eq_false, not_false_eq_true] <;> omega) | exact ic_T0 (by omega) (by simp only [icN, not_true_eq_false, not_false_eq_true] <;> omega)) ?_
        refine R_aload_n rfl rfl ?_
        refine R_bipush (y := nI 6) rfl (by decide) ?_
        refine R_virt rfl rfl rfl rfl rfl rfl rfl (Nat.le_of_ble_eq_true rfl) (fun _ q => by cases q) (r_ends) ?_
        try refine R_top (y := nI _) (by assumption) ?_
        exact R_iret rfl rfl (by first | trivial | exact Or.inl rfl | exact Or.inr rfl | assumption) ⟨rfl, rfl⟩
      · refine R_lstore (lv' := [(6, _), (4, _), (2, _), (0, _), (1, _)]) rfl rfl ?_
        refine R_lload rfl rfl ?_
        refine R_ldc2_w rfl rfl ?_
        refine R_lcmp rfl ?_
        refine R_ifF rfl (by first | assumption | exact icF (by decide) | exact ic_F (by omega) (by omega) (by simp only [icN, not_true_eq_false, not_false_eq_true] <;> omega) | exact ic_F0 (by omega) (by simp only [icN, not_true_eq_false, not_false_eq_true] <;> omega)) ?_
        refine R_lload rfl rfl ?_
        refine R_ldc2_w rfl rfl ?_
        refine R_lcmp rfl ?_
        refine R_ifF rfl (by first | assumption | exact icF (by decide) | exact ic_F (by omega) (by omega) (by simp only [icN, not_true_eq_false, not_false_eq_true] <;> omega) | exact ic_F0 (by omega) (by simp only [icN, not_true_eq_false, not_false_eq_true] <;> omega)) ?_
        refine R_aload_n rfl rfl ?_
        refine R_bipush (y := nI 6) rfl (by decide) ?_
        refine R_virt rfl rfl rfl rfl rfl rfl rfl (Nat.le_of_ble_eq_true rfl) (fun _ q => by cases q) (r_ends) ?_
        try refine R_top (y := nI _) (by assumption) ?_
        exact R_iret rfl rfl (by first | trivial | exact Or.inl rfl | exact Or.inr rfl | assumption) ⟨rfl, rfl⟩
  · have h1 : ¬ lg_cmp r (-1073741824) < 0 := fun q => h (Or.inl q)
    have h2 : lg_cmp r 1073741823 ≤ 0 := Classical.byContradiction (fun q => h (Or.inr q))
    refine R_lstore (lv' := [(6, _), (4, _), (2, _), (0, _), (1, _)]) rfl rfl ?_
    refine R_lload rfl rfl ?_
    refine R_ldc2_w rfl rfl ?_
    refine R_lcmp rfl ?_
    refine R_ifF rfl (by first | assumption | exact icF (by decide) | exact ic_F (by omega) (by omega) (by simp only [icN, not_true_eq_false, not_false_eq_true] <;> omega) | exact ic_F0 (by omega) (by simp only [icN, not_true_eq_false, not_false_eq_true] <;> omega)) ?_
    refine R_lload rfl rfl ?_
    refine R_ldc2_w rfl rfl ?_
    refine R_lcmp rfl ?_
    refine R_ifT (pc' := 168) rfl rfl (by first | assumption | exact icT (by decide) | exact ic_T (by omega) (by omega) (by simp only [icN, not_true_eq_false, not_false_eq_true] <;> omega) | exact ic_T0 (by omega) (by simp only [icN, not_true_eq_false, not_false_eq_true] <;> omega)) ?_
    refine R_aload_n rfl rfl ?_
    refine R_aload_n rfl rfl ?_
    refine R_getI rfl rfl (Or.inl rfl) ?_
    try refine R_top (y := nI _) (by assumption) ?_
    refine R_iconst (y := nI 2) rfl (by decide) ?_
    first | refine R_isubN rfl (by omega) ?_ | refine R_isub rfl ?_
    refine R_put rfl rfl rfl ?_
    refine R_aload_n rfl rfl ?_
    refine R_iconst (y := nI 1) rfl (by decide) ?_
    refine R_lload rfl rfl ?_
    refine R_l2i rfl ?_
    refine R_virt rfl rfl rfl rfl rfl rfl rfl (Nat.le_of_ble_eq_true rfl) (fun _ q => by cases q) (r_push (by first | assumption | rfl) (by omega)) ?_
    refine R_aload_n rfl rfl ?_
    refine R_aload_n rfl rfl ?_
    refine R_getI rfl rfl (Or.inl rfl) ?_
    try refine R_top (y := nI _) (by assumption) ?_
    refine R_iconst (y := nI 1) rfl (by decide) ?_
    first | refine R_iaddN rfl ?_ | refine R_iadd rfl ?_
    refine R_virt rfl rfl rfl rfl rfl rfl rfl (Nat.le_of_ble_eq_true rfl) (fun _ q => by cases q) (r_well (by assumption)) ?_
    try refine R_top (y := nI _) (by assumption) ?_
    exact R_iret rfl rfl (by first | trivial | exact Or.inl rfl | exact Or.inr rfl | assumption) ⟨rfl, rfl⟩
theorem r_reck6 {d : Nat} {M M' : Mem} {v : Int32} {p a s : Nat} (hp : M 14 0 = nI p) (hp1 : p ≤ 1000) (hp0 : 1 < p) (ha : M 10 0 = nI a) (hs : M 11 0 = nI s) (hk1 : M 12 (p - 1 - 1) = nI 1) (hk0 : M 12 (p - 1 - 0) = nI 1) (hr : (ovr (arR 6 (M 13 (p - 1 - 1)).toInt64 (M 13 (p - 1 - 0)).toInt64) ∧ v = nI 6 ∧ M' = up2 M 9 0 (nI 6)) ∨ (¬ ovr (arR 6 (M 13 (p - 1 - 1)).toInt64 (M 13 (p - 1 - 0)).toInt64) ∧ v = 0 ∧ M' = welM (pushM (lowM M (p - 2)) (p - 2) (nI 1) (arR 6 (M 13 (p - 1 - 1)).toInt64 (M 13 (p - 1 - 0)).toInt64).toInt32) (nI (a + 1)) s)) : CalR (d + 2) j_X9_reckon [.ref 0, .int (nI 6)] M (some (.int v)) M' := by
  refine CalR_of (md := md_X9_reckon) (d := d + 1) rfl (Nat.le_of_ble_eq_true rfl) ?_
  show WR (CalR (d + 1)) t_X9_reckon 9 (some .int) _ 0 [(0, .ref 0), (1, .int (nI 6))] [] _
  refine R_aload_n rfl rfl ?_
  refine R_iconst (y := nI 1) rfl (by decide) ?_
  refine R_virt rfl rfl rfl rfl rfl rfl rfl (Nat.le_of_ble_eq_true rfl) (fun _ q => by cases q) (r_topKind (by first | assumption | rfl) (by omega) (by omega)) ?_
  try refine R_top (y := nI _) (by assumption) ?_
  refine R_iconst (y := nI 1) rfl (by decide) ?_
  refine R_icF rfl (by first | assumption | exact icF (by decide) | exact ic_F (by omega) (by omega) (by simp only [icN, not_true_eq_false, not_false_eq_true] <;> omega) | exact ic_F0 (by omega) (by simp only [icN, not_true_eq_false, not_false_eq_true] <;> omega)) ?_
  refine R_aload_n rfl rfl ?_
  refine R_iconst (y := nI 0) rfl (by decide) ?_
  refine R_virt rfl rfl rfl rfl rfl rfl rfl (Nat.le_of_ble_eq_true rfl) (fun _ q => by cases q) (r_topKind (by first | assumption | rfl) (by omega) (by omega)) ?_
  try refine R_top (y := nI _) (by assumption) ?_
  refine R_iconst (y := nI 1) rfl (by decide) ?_
  refine R_icT (pc' := 24) rfl rfl (by first | assumption | exact icT (by decide) | exact ic_T (by omega) (by omega) (by simp only [icN, not_true_eq_false, not_false_eq_true] <;> omega) | exact ic_T0 (by omega) (by simp only [icN, not_true_eq_false, not_false_eq_true] <;> omega)) ?_
  refine R_aload_n rfl rfl ?_
  refine R_iconst (y := nI 1) rfl (by decide) ?_
  refine R_virt rfl rfl rfl rfl rfl rfl rfl (Nat.le_of_ble_eq_true rfl) (fun _ q => by cases q) (r_topNumber (by first | assumption | rfl) (by omega) (by omega)) ?_
  try refine R_top (y := nI _) (by assumption) ?_
  refine R_i2l rfl ?_
  refine R_lstore_n (lv' := [(2, _), (0, _), (1, _)]) rfl rfl ?_
  refine R_aload_n rfl rfl ?_
  refine R_iconst (y := nI 0) rfl (by decide) ?_
  refine R_virt rfl rfl rfl rfl rfl rfl rfl (Nat.le_of_ble_eq_true rfl) (fun _ q => by cases q) (r_topNumber (by first | assumption | rfl) (by omega) (by omega)) ?_
  try refine R_top (y := nI _) (by assumption) ?_
  refine R_i2l rfl ?_
  refine R_lstore (lv' := [(4, _), (2, _), (0, _), (1, _)]) rfl rfl ?_
  refine R_iload_n rfl rfl ?_
  refine R_bipush (y := nI 9) rfl (by decide) ?_
  refine R_icF rfl (by first | assumption | exact icF (by decide) | exact ic_F (by omega) (by omega) (by simp only [icN, not_true_eq_false, not_false_eq_true] <;> omega) | exact ic_F0 (by omega) (by simp only [icN, not_true_eq_false, not_false_eq_true] <;> omega)) ?_
  refine R_iload_n rfl rfl ?_
  refine R_bipush (y := nI 10) rfl (by decide) ?_
  refine R_icT (pc' := 64) rfl rfl (by first | assumption | exact icT (by decide) | exact ic_T (by omega) (by omega) (by simp only [icN, not_true_eq_false, not_false_eq_true] <;> omega) | exact ic_T0 (by omega) (by simp only [icN, not_true_eq_false, not_false_eq_true] <;> omega)) ?_
  refine R_iload_n rfl rfl ?_
  refine R_bipush (y := nI 6) rfl (by decide) ?_
  refine R_icF rfl (by first | assumption | exact icF (by decide) | exact ic_F (by omega) (by omega) (by simp only [icN, not_true_eq_false, not_false_eq_true] <;> omega) | exact ic_F0 (by omega) (by simp only [icN, not_true_eq_false, not_false_eq_true] <;> omega)) ?_
  refine R_lload_n rfl rfl ?_
  refine R_lload rfl rfl ?_
  refine R_ladd rfl ?_
  refine R_goto (pc' := 141) rfl rfl ?_
  exact r_reckT hp hp1 hp0 ha hs hr
theorem r_reck7 {d : Nat} {M M' : Mem} {v : Int32} {p a s : Nat} (hp : M 14 0 = nI p) (hp1 : p ≤ 1000) (hp0 : 1 < p) (ha : M 10 0 = nI a) (hs : M 11 0 = nI s) (hk1 : M 12 (p - 1 - 1) = nI 1) (hk0 : M 12 (p - 1 - 0) = nI 1) (hr : (ovr (arR 7 (M 13 (p - 1 - 1)).toInt64 (M 13 (p - 1 - 0)).toInt64) ∧ v = nI 6 ∧ M' = up2 M 9 0 (nI 6)) ∨ (¬ ovr (arR 7 (M 13 (p - 1 - 1)).toInt64 (M 13 (p - 1 - 0)).toInt64) ∧ v = 0 ∧ M' = welM (pushM (lowM M (p - 2)) (p - 2) (nI 1) (arR 7 (M 13 (p - 1 - 1)).toInt64 (M 13 (p - 1 - 0)).toInt64).toInt32) (nI (a + 1)) s)) : CalR (d + 2) j_X9_reckon [.ref 0, .int (nI 7)] M (some (.int v)) M' := by
  refine CalR_of (md := md_X9_reckon) (d := d + 1) rfl (Nat.le_of_ble_eq_true rfl) ?_
  show WR (CalR (d + 1)) t_X9_reckon 9 (some .int) _ 0 [(0, .ref 0), (1, .int (nI 7))] [] _
  refine R_aload_n rfl rfl ?_
  refine R_iconst (y := nI 1) rfl (by decide) ?_
  refine R_virt rfl rfl rfl rfl rfl rfl rfl (Nat.le_of_ble_eq_true rfl) (fun _ q => by cases q) (r_topKind (by first | assumption | rfl) (by omega) (by omega)) ?_
  try refine R_top (y := nI _) (by assumption) ?_
  refine R_iconst (y := nI 1) rfl (by decide) ?_
  refine R_icF rfl (by first | assumption | exact icF (by decide) | exact ic_F (by omega) (by omega) (by simp only [icN, not_true_eq_false, not_false_eq_true] <;> omega) | exact ic_F0 (by omega) (by simp only [icN, not_true_eq_false, not_false_eq_true] <;> omega)) ?_
  refine R_aload_n rfl rfl ?_
  refine R_iconst (y := nI 0) rfl (by decide) ?_
  refine R_virt rfl rfl rfl rfl rfl rfl rfl (Nat.le_of_ble_eq_true rfl) (fun _ q => by cases q) (r_topKind (by first | assumption | rfl) (by omega) (by omega)) ?_
  try refine R_top (y := nI _) (by assumption) ?_
  refine R_iconst (y := nI 1) rfl (by decide) ?_
  refine R_icT (pc' := 24) rfl rfl (by first | assumption | exact icT (by decide) | exact ic_T (by omega) (by omega) (by simp only [icN, not_true_eq_false, not_false_eq_true] <;> omega) | exact ic_T0 (by omega) (by simp only [icN, not_true_eq_false, not_false_eq_true] <;> omega)) ?_
  refine R_aload_n rfl rfl ?_
  refine R_iconst (y := nI 1) rfl (by decide) ?_
  refine R_virt rfl rfl rfl rfl rfl rfl rfl (Nat.le_of_ble_eq_true rfl) (fun _ q => by cases q) (r_topNumber (by first | assumption | rfl) (by omega) (by omega)) ?_
  try refine R_top (y := nI _) (by assumption) ?_
  refine R_i2l rfl ?_
  refine R_lstore_n (lv' := [(2, _), (0, _), (1, _)]) rfl rfl ?_
  refine R_aload_n rfl rfl ?_
  refine R_iconst (y := nI 0) rfl (by decide) ?_
  refine R_virt rfl rfl rfl rfl rfl rfl rfl (Nat.le_of_ble_eq_true rfl) (fun _ q => by cases q) (r_topNumber (by first | assumption | rfl) (by omega) (by omega)) ?_
  try refine R_top (y := nI _) (by assumption) ?_
  refine R_i2l rfl ?_
  refine R_lstore (lv' := [(4, _), (2, _), (0, _), (1, _)]) rfl rfl ?_
  refine R_iload_n rfl rfl ?_
  refine R_bipush (y := nI 9) rfl (by decide) ?_
  refine R_icF rfl (by first | assumption | exact icF (by decide) | exact ic_F (by omega) (by omega) (by simp only [icN, not_true_eq_false, not_false_eq_true] <;> omega) | exact ic_F0 (by omega) (by simp only [icN, not_true_eq_false, not_false_eq_true] <;> omega)) ?_
  refine R_iload_n rfl rfl ?_
  refine R_bipush (y := nI 10) rfl (by decide) ?_
  refine R_icT (pc' := 64) rfl rfl (by first | assumption | exact icT (by decide) | exact ic_T (by omega) (by omega) (by simp only [icN, not_true_eq_false, not_false_eq_true] <;> omega) | exact ic_T0 (by omega) (by simp only [icN, not_true_eq_false, not_false_eq_true] <;> omega)) ?_
  refine R_iload_n rfl rfl ?_
  refine R_bipush (y := nI 6) rfl (by decide) ?_
  refine R_icT (pc' := 77) rfl rfl (by first | assumption | exact icT (by decide) | exact ic_T (by omega) (by omega) (by simp only [icN, not_true_eq_false, not_false_eq_true] <;> omega) | exact ic_T0 (by omega) (by simp only [icN, not_true_eq_false, not_false_eq_true] <;> omega)) ?_
  refine R_iload_n rfl rfl ?_
  refine R_bipush (y := nI 7) rfl (by decide) ?_
  refine R_icF rfl (by first | assumption | exact icF (by decide) | exact ic_F (by omega) (by omega) (by simp only [icN, not_true_eq_false, not_false_eq_true] <;> omega) | exact ic_F0 (by omega) (by simp only [icN, not_true_eq_false, not_false_eq_true] <;> omega)) ?_
  refine R_lload_n rfl rfl ?_
  refine R_lload rfl rfl ?_
  refine R_lsub rfl ?_
  refine R_goto (pc' := 141) rfl rfl ?_
  exact r_reckT hp hp1 hp0 ha hs hr
theorem r_reck8 {d : Nat} {M M' : Mem} {v : Int32} {p a s : Nat} (hp : M 14 0 = nI p) (hp1 : p ≤ 1000) (hp0 : 1 < p) (ha : M 10 0 = nI a) (hs : M 11 0 = nI s) (hk1 : M 12 (p - 1 - 1) = nI 1) (hk0 : M 12 (p - 1 - 0) = nI 1) (hr : (ovr (arR 8 (M 13 (p - 1 - 1)).toInt64 (M 13 (p - 1 - 0)).toInt64) ∧ v = nI 6 ∧ M' = up2 M 9 0 (nI 6)) ∨ (¬ ovr (arR 8 (M 13 (p - 1 - 1)).toInt64 (M 13 (p - 1 - 0)).toInt64) ∧ v = 0 ∧ M' = welM (pushM (lowM M (p - 2)) (p - 2) (nI 1) (arR 8 (M 13 (p - 1 - 1)).toInt64 (M 13 (p - 1 - 0)).toInt64).toInt32) (nI (a + 1)) s)) : CalR (d + 2) j_X9_reckon [.ref 0, .int (nI 8)] M (some (.int v)) M' := by
  refine CalR_of (md := md_X9_reckon) (d := d + 1) rfl (Nat.le_of_ble_eq_true rfl) ?_
  show WR (CalR (d + 1)) t_X9_reckon 9 (some .int) _ 0 [(0, .ref 0), (1, .int (nI 8))] [] _
  refine R_aload_n rfl rfl ?_
  refine R_iconst (y := nI 1) rfl (by decide) ?_
  refine R_virt rfl rfl rfl rfl rfl rfl rfl (Nat.le_of_ble_eq_true rfl) (fun _ q => by cases q) (r_topKind (by first | assumption | rfl) (by omega) (by omega)) ?_
  try refine R_top (y := nI _) (by assumption) ?_
  refine R_iconst (y := nI 1) rfl (by decide) ?_
  refine R_icF rfl (by first | assumption | exact icF (by decide) | exact ic_F (by omega) (by omega) (by simp only [icN, not_true_eq_false, not_false_eq_true] <;> omega) | exact ic_F0 (by omega) (by simp only [icN, not_true_eq_false, not_false_eq_true] <;> omega)) ?_
  refine R_aload_n rfl rfl ?_
  refine R_iconst (y := nI 0) rfl (by decide) ?_
  refine R_virt rfl rfl rfl rfl rfl rfl rfl (Nat.le_of_ble_eq_true rfl) (fun _ q => by cases q) (r_topKind (by first | assumption | rfl) (by omega) (by omega)) ?_
  try refine R_top (y := nI _) (by assumption) ?_
  refine R_iconst (y := nI 1) rfl (by decide) ?_
  refine R_icT (pc' := 24) rfl rfl (by first | assumption | exact icT (by decide) | exact ic_T (by omega) (by omega) (by simp only [icN, not_true_eq_false, not_false_eq_true] <;> omega) | exact ic_T0 (by omega) (by simp only [icN, not_true_eq_false, not_false_eq_true] <;> omega)) ?_
  refine R_aload_n rfl rfl ?_
  refine R_iconst (y := nI 1) rfl (by decide) ?_
  refine R_virt rfl rfl rfl rfl rfl rfl rfl (Nat.le_of_ble_eq_true rfl) (fun _ q => by cases q) (r_topNumber (by first | assumption | rfl) (by omega) (by omega)) ?_
  try refine R_top (y := nI _) (by assumption) ?_
  refine R_i2l rfl ?_
  refine R_lstore_n (lv' := [(2, _), (0, _), (1, _)]) rfl rfl ?_
  refine R_aload_n rfl rfl ?_
  refine R_iconst (y := nI 0) rfl (by decide) ?_
  refine R_virt rfl rfl rfl rfl rfl rfl rfl (Nat.le_of_ble_eq_true rfl) (fun _ q => by cases q) (r_topNumber (by first | assumption | rfl) (by omega) (by omega)) ?_
  try refine R_top (y := nI _) (by assumption) ?_
  refine R_i2l rfl ?_
  refine R_lstore (lv' := [(4, _), (2, _), (0, _), (1, _)]) rfl rfl ?_
  refine R_iload_n rfl rfl ?_
  refine R_bipush (y := nI 9) rfl (by decide) ?_
  refine R_icF rfl (by first | assumption | exact icF (by decide) | exact ic_F (by omega) (by omega) (by simp only [icN, not_true_eq_false, not_false_eq_true] <;> omega) | exact ic_F0 (by omega) (by simp only [icN, not_true_eq_false, not_false_eq_true] <;> omega)) ?_
  refine R_iload_n rfl rfl ?_
  refine R_bipush (y := nI 10) rfl (by decide) ?_
  refine R_icT (pc' := 64) rfl rfl (by first | assumption | exact icT (by decide) | exact ic_T (by omega) (by omega) (by simp only [icN, not_true_eq_false, not_false_eq_true] <;> omega) | exact ic_T0 (by omega) (by simp only [icN, not_true_eq_false, not_false_eq_true] <;> omega)) ?_
  refine R_iload_n rfl rfl ?_
  refine R_bipush (y := nI 6) rfl (by decide) ?_
  refine R_icT (pc' := 77) rfl rfl (by first | assumption | exact icT (by decide) | exact ic_T (by omega) (by omega) (by simp only [icN, not_true_eq_false, not_false_eq_true] <;> omega) | exact ic_T0 (by omega) (by simp only [icN, not_true_eq_false, not_false_eq_true] <;> omega)) ?_
  refine R_iload_n rfl rfl ?_
  refine R_bipush (y := nI 7) rfl (by decide) ?_
  refine R_icT (pc' := 90) rfl rfl (by first | assumption | exact icT (by decide) | exact ic_T (by omega) (by omega) (by simp only [icN, not_true_eq_false, not_false_eq_true] <;> omega) | exact ic_T0 (by omega) (by simp only [icN, not_true_eq_false, not_false_eq_true] <;> omega)) ?_
  refine R_iload_n rfl rfl ?_
  refine R_bipush (y := nI 8) rfl (by decide) ?_
  refine R_icF rfl (by first | assumption | exact icF (by decide) | exact ic_F (by omega) (by omega) (by simp only [icN, not_true_eq_false, not_false_eq_true] <;> omega) | exact ic_F0 (by omega) (by simp only [icN, not_true_eq_false, not_false_eq_true] <;> omega)) ?_
  refine R_lload_n rfl rfl ?_
  refine R_lload rfl rfl ?_
  refine R_lmul rfl ?_
  refine R_goto (pc' := 141) rfl rfl ?_
  exact r_reckT hp hp1 hp0 ha hs hr
theorem r_reck9 {d : Nat} {M M' : Mem} {v : Int32} {p a s : Nat} (hp : M 14 0 = nI p) (hp1 : p ≤ 1000) (hp0 : 1 < p) (ha : M 10 0 = nI a) (hs : M 11 0 = nI s) (hk1 : M 12 (p - 1 - 1) = nI 1) (hk0 : M 12 (p - 1 - 0) = nI 1) (hz : ¬ M 13 (p - 1 - 0) = 0) (hr : (ovr (arR 9 (M 13 (p - 1 - 1)).toInt64 (M 13 (p - 1 - 0)).toInt64) ∧ v = nI 6 ∧ M' = up2 M 9 0 (nI 6)) ∨ (¬ ovr (arR 9 (M 13 (p - 1 - 1)).toInt64 (M 13 (p - 1 - 0)).toInt64) ∧ v = 0 ∧ M' = welM (pushM (lowM M (p - 2)) (p - 2) (nI 1) (arR 9 (M 13 (p - 1 - 1)).toInt64 (M 13 (p - 1 - 0)).toInt64).toInt32) (nI (a + 1)) s)) : CalR (d + 2) j_X9_reckon [.ref 0, .int (nI 9)] M (some (.int v)) M' := by
  have hz6 : ¬ (M 13 (p - 1 - 0)).toInt64 = 0 := fun q => hz (i64z q)
  have hz2 : ¬ lg_cmp (M 13 (p - 1 - 0)).toInt64 0 = 0 := fun q => hz6 (lgc_0.mp q)
  refine CalR_of (md := md_X9_reckon) (d := d + 1) rfl (Nat.le_of_ble_eq_true rfl) ?_
  show WR (CalR (d + 1)) t_X9_reckon 9 (some .int) _ 0 [(0, .ref 0), (1, .int (nI 9))] [] _
  refine R_aload_n rfl rfl ?_
  refine R_iconst (y := nI 1) rfl (by decide) ?_
  refine R_virt rfl rfl rfl rfl rfl rfl rfl (Nat.le_of_ble_eq_true rfl) (fun _ q => by cases q) (r_topKind (by first | assumption | rfl) (by omega) (by omega)) ?_
  try refine R_top (y := nI _) (by assumption) ?_
  refine R_iconst (y := nI 1) rfl (by decide) ?_
  refine R_icF rfl (by first | assumption | exact icF (by decide) | exact ic_F (by omega) (by omega) (by simp only [icN, not_true_eq_false, not_false_eq_true] <;> omega) | exact ic_F0 (by omega) (by simp only [icN, not_true_eq_false, not_false_eq_true] <;> omega)) ?_
  refine R_aload_n rfl rfl ?_
  refine R_iconst (y := nI 0) rfl (by decide) ?_
  refine R_virt rfl rfl rfl rfl rfl rfl rfl (Nat.le_of_ble_eq_true rfl) (fun _ q => by cases q) (r_topKind (by first | assumption | rfl) (by omega) (by omega)) ?_
  try refine R_top (y := nI _) (by assumption) ?_
  refine R_iconst (y := nI 1) rfl (by decide) ?_
  refine R_icT (pc' := 24) rfl rfl (by first | assumption | exact icT (by decide) | exact ic_T (by omega) (by omega) (by simp only [icN, not_true_eq_false, not_false_eq_true] <;> omega) | exact ic_T0 (by omega) (by simp only [icN, not_true_eq_false, not_false_eq_true] <;> omega)) ?_
  refine R_aload_n rfl rfl ?_
  refine R_iconst (y := nI 1) rfl (by decide) ?_
  refine R_virt rfl rfl rfl rfl rfl rfl rfl (Nat.le_of_ble_eq_true rfl) (fun _ q => by cases q) (r_topNumber (by first | assumption | rfl) (by omega) (by omega)) ?_
  try refine R_top (y := nI _) (by assumption) ?_
  refine R_i2l rfl ?_
  refine R_lstore_n (lv' := [(2, _), (0, _), (1, _)]) rfl rfl ?_
  refine R_aload_n rfl rfl ?_
  refine R_iconst (y := nI 0) rfl (by decide) ?_
  refine R_virt rfl rfl rfl rfl rfl rfl rfl (Nat.le_of_ble_eq_true rfl) (fun _ q => by cases q) (r_topNumber (by first | assumption | rfl) (by omega) (by omega)) ?_
  try refine R_top (y := nI _) (by assumption) ?_
  refine R_i2l rfl ?_
  refine R_lstore (lv' := [(4, _), (2, _), (0, _), (1, _)]) rfl rfl ?_
  refine R_iload_n rfl rfl ?_
  refine R_bipush (y := nI 9) rfl (by decide) ?_
  refine R_icT (pc' := 51) rfl rfl (by first | assumption | exact icT (by decide) | exact ic_T (by omega) (by omega) (by simp only [icN, not_true_eq_false, not_false_eq_true] <;> omega) | exact ic_T0 (by omega) (by simp only [icN, not_true_eq_false, not_false_eq_true] <;> omega)) ?_
  refine R_lload rfl rfl ?_
  refine R_lconst rfl ?_
  refine R_lcmp rfl ?_
  refine R_ifT (pc' := 64) rfl rfl (by first | assumption | exact icT (by decide) | exact ic_T (by omega) (by omega) (by simp only [icN, not_true_eq_false, not_false_eq_true] <;> omega) | exact ic_T0 (by omega) (by simp only [icN, not_true_eq_false, not_false_eq_true] <;> omega)) ?_
  refine R_iload_n rfl rfl ?_
  refine R_bipush (y := nI 6) rfl (by decide) ?_
  refine R_icT (pc' := 77) rfl rfl (by first | assumption | exact icT (by decide) | exact ic_T (by omega) (by omega) (by simp only [icN, not_true_eq_false, not_false_eq_true] <;> omega) | exact ic_T0 (by omega) (by simp only [icN, not_true_eq_false, not_false_eq_true] <;> omega)) ?_
  refine R_iload_n rfl rfl ?_
  refine R_bipush (y := nI 7) rfl (by decide) ?_
  refine R_icT (pc' := 90) rfl rfl (by first | assumption | exact icT (by decide) | exact ic_T (by omega) (by omega) (by simp only [icN, not_true_eq_false, not_false_eq_true] <;> omega) | exact ic_T0 (by omega) (by simp only [icN, not_true_eq_false, not_false_eq_true] <;> omega)) ?_
  refine R_iload_n rfl rfl ?_
  refine R_bipush (y := nI 8) rfl (by decide) ?_
  refine R_icT (pc' := 103) rfl rfl (by first | assumption | exact icT (by decide) | exact ic_T (by omega) (by omega) (by simp only [icN, not_true_eq_false, not_false_eq_true] <;> omega) | exact ic_T0 (by omega) (by simp only [icN, not_true_eq_false, not_false_eq_true] <;> omega)) ?_
  refine R_iload_n rfl rfl ?_
  refine R_bipush (y := nI 9) rfl (by decide) ?_
  refine R_icF rfl (by first | assumption | exact icF (by decide) | exact ic_F (by omega) (by omega) (by simp only [icN, not_true_eq_false, not_false_eq_true] <;> omega) | exact ic_F0 (by omega) (by simp only [icN, not_true_eq_false, not_false_eq_true] <;> omega)) ?_
  refine R_lload_n rfl rfl ?_
  refine R_lload rfl rfl ?_
  refine R_ldiv rfl (by assumption) ?_
  refine R_goto (pc' := 141) rfl rfl ?_
  exact r_reckT hp hp1 hp0 ha hs hr
theorem r_reckZ9 {d : Nat} {M : Mem} {p : Nat} (hp : M 14 0 = nI p) (hp1 : p ≤ 1000) (hp0 : 1 < p) (hk1 : M 12 (p - 1 - 1) = nI 1) (hk0 : M 12 (p - 1 - 0) = nI 1) (hz : M 13 (p - 1 - 0) = 0) : CalR (d + 2) j_X9_reckon [.ref 0, .int (nI 9)] M (some (.int (nI 4))) (up2 M 9 0 (nI 4)) := by
  have hz2 : ¬ ¬ lg_cmp (0 : Int32).toInt64 0 = 0 := by decide
  refine CalR_of (md := md_X9_reckon) (d := d + 1) rfl (Nat.le_of_ble_eq_true rfl) ?_
  show WR (CalR (d + 1)) t_X9_reckon 9 (some .int) _ 0 [(0, .ref 0), (1, .int (nI 9))] [] _
  refine R_aload_n rfl rfl ?_
  refine R_iconst (y := nI 1) rfl (by decide) ?_
  refine R_virt rfl rfl rfl rfl rfl rfl rfl (Nat.le_of_ble_eq_true rfl) (fun _ q => by cases q) (r_topKind (by first | assumption | rfl) (by omega) (by omega)) ?_
  try refine R_top (y := nI _) (by assumption) ?_
  refine R_iconst (y := nI 1) rfl (by decide) ?_
  refine R_icF rfl (by first | assumption | exact icF (by decide) | exact ic_F (by omega) (by omega) (by simp only [icN, not_true_eq_false, not_false_eq_true] <;> omega) | exact ic_F0 (by omega) (by simp only [icN, not_true_eq_false, not_false_eq_true] <;> omega)) ?_
  refine R_aload_n rfl rfl ?_
  refine R_iconst (y := nI 0) rfl (by decide) ?_
  refine R_virt rfl rfl rfl rfl rfl rfl rfl (Nat.le_of_ble_eq_true rfl) (fun _ q => by cases q) (r_topKind (by first | assumption | rfl) (by omega) (by omega)) ?_
  try refine R_top (y := nI _) (by assumption) ?_
  refine R_iconst (y := nI 1) rfl (by decide) ?_
  refine R_icT (pc' := 24) rfl rfl (by first | assumption | exact icT (by decide) | exact ic_T (by omega) (by omega) (by simp only [icN, not_true_eq_false, not_false_eq_true] <;> omega) | exact ic_T0 (by omega) (by simp only [icN, not_true_eq_false, not_false_eq_true] <;> omega)) ?_
  refine R_aload_n rfl rfl ?_
  refine R_iconst (y := nI 1) rfl (by decide) ?_
  refine R_virt rfl rfl rfl rfl rfl rfl rfl (Nat.le_of_ble_eq_true rfl) (fun _ q => by cases q) (r_topNumber (by first | assumption | rfl) (by omega) (by omega)) ?_
  try refine R_top (y := nI _) (by assumption) ?_
  refine R_i2l rfl ?_
  refine R_lstore_n (lv' := [(2, _), (0, _), (1, _)]) rfl rfl ?_
  refine R_aload_n rfl rfl ?_
  refine R_iconst (y := nI 0) rfl (by decide) ?_
  refine R_virt rfl rfl rfl rfl rfl rfl rfl (Nat.le_of_ble_eq_true rfl) (fun _ q => by cases q) (r_topNumber (by first | assumption | rfl) (by omega) (by omega)) ?_
  try refine R_top (y := nI _) (by assumption) ?_
  refine R_i2l rfl ?_
  refine R_lstore (lv' := [(4, _), (2, _), (0, _), (1, _)]) rfl rfl ?_
  refine R_iload_n rfl rfl ?_
  refine R_bipush (y := nI 9) rfl (by decide) ?_
  refine R_icT (pc' := 51) rfl rfl (by first | assumption | exact icT (by decide) | exact ic_T (by omega) (by omega) (by simp only [icN, not_true_eq_false, not_false_eq_true] <;> omega) | exact ic_T0 (by omega) (by simp only [icN, not_true_eq_false, not_false_eq_true] <;> omega)) ?_
  refine R_lload rfl rfl ?_
  refine R_lconst rfl ?_
  refine R_lcmp rfl ?_
  refine R_ifF rfl (by first | assumption | exact icF (by decide) | exact ic_F (by omega) (by omega) (by simp only [icN, not_true_eq_false, not_false_eq_true] <;> omega) | exact ic_F0 (by omega) (by simp only [icN, not_true_eq_false, not_false_eq_true] <;> omega)) ?_
  refine R_aload_n rfl rfl ?_
  refine R_iconst (y := nI 4) rfl (by decide) ?_
  refine R_virt rfl rfl rfl rfl rfl rfl rfl (Nat.le_of_ble_eq_true rfl) (fun _ q => by cases q) (r_ends) ?_
  try refine R_top (y := nI _) (by assumption) ?_
  exact R_iret rfl rfl (by first | trivial | exact Or.inl rfl | exact Or.inr rfl | assumption) ⟨rfl, rfl⟩
theorem r_reck10 {d : Nat} {M M' : Mem} {v : Int32} {p a s : Nat} (hp : M 14 0 = nI p) (hp1 : p ≤ 1000) (hp0 : 1 < p) (ha : M 10 0 = nI a) (hs : M 11 0 = nI s) (hk1 : M 12 (p - 1 - 1) = nI 1) (hk0 : M 12 (p - 1 - 0) = nI 1) (hz : ¬ M 13 (p - 1 - 0) = 0) (hr : (ovr (arR 10 (M 13 (p - 1 - 1)).toInt64 (M 13 (p - 1 - 0)).toInt64) ∧ v = nI 6 ∧ M' = up2 M 9 0 (nI 6)) ∨ (¬ ovr (arR 10 (M 13 (p - 1 - 1)).toInt64 (M 13 (p - 1 - 0)).toInt64) ∧ v = 0 ∧ M' = welM (pushM (lowM M (p - 2)) (p - 2) (nI 1) (arR 10 (M 13 (p - 1 - 1)).toInt64 (M 13 (p - 1 - 0)).toInt64).toInt32) (nI (a + 1)) s)) : CalR (d + 2) j_X9_reckon [.ref 0, .int (nI 10)] M (some (.int v)) M' := by
  have hz6 : ¬ (M 13 (p - 1 - 0)).toInt64 = 0 := fun q => hz (i64z q)
  have hz2 : ¬ lg_cmp (M 13 (p - 1 - 0)).toInt64 0 = 0 := fun q => hz6 (lgc_0.mp q)
  refine CalR_of (md := md_X9_reckon) (d := d + 1) rfl (Nat.le_of_ble_eq_true rfl) ?_
  show WR (CalR (d + 1)) t_X9_reckon 9 (some .int) _ 0 [(0, .ref 0), (1, .int (nI 10))] [] _
  refine R_aload_n rfl rfl ?_
  refine R_iconst (y := nI 1) rfl (by decide) ?_
  refine R_virt rfl rfl rfl rfl rfl rfl rfl (Nat.le_of_ble_eq_true rfl) (fun _ q => by cases q) (r_topKind (by first | assumption | rfl) (by omega) (by omega)) ?_
  try refine R_top (y := nI _) (by assumption) ?_
  refine R_iconst (y := nI 1) rfl (by decide) ?_
  refine R_icF rfl (by first | assumption | exact icF (by decide) | exact ic_F (by omega) (by omega) (by simp only [icN, not_true_eq_false, not_false_eq_true] <;> omega) | exact ic_F0 (by omega) (by simp only [icN, not_true_eq_false, not_false_eq_true] <;> omega)) ?_
  refine R_aload_n rfl rfl ?_
  refine R_iconst (y := nI 0) rfl (by decide) ?_
  refine R_virt rfl rfl rfl rfl rfl rfl rfl (Nat.le_of_ble_eq_true rfl) (fun _ q => by cases q) (r_topKind (by first | assumption | rfl) (by omega) (by omega)) ?_
  try refine R_top (y := nI _) (by assumption) ?_
  refine R_iconst (y := nI 1) rfl (by decide) ?_
  refine R_icT (pc' := 24) rfl rfl (by first | assumption | exact icT (by decide) | exact ic_T (by omega) (by omega) (by simp only [icN, not_true_eq_false, not_false_eq_true] <;> omega) | exact ic_T0 (by omega) (by simp only [icN, not_true_eq_false, not_false_eq_true] <;> omega)) ?_
  refine R_aload_n rfl rfl ?_
  refine R_iconst (y := nI 1) rfl (by decide) ?_
  refine R_virt rfl rfl rfl rfl rfl rfl rfl (Nat.le_of_ble_eq_true rfl) (fun _ q => by cases q) (r_topNumber (by first | assumption | rfl) (by omega) (by omega)) ?_
  try refine R_top (y := nI _) (by assumption) ?_
  refine R_i2l rfl ?_
  refine R_lstore_n (lv' := [(2, _), (0, _), (1, _)]) rfl rfl ?_
  refine R_aload_n rfl rfl ?_
  refine R_iconst (y := nI 0) rfl (by decide) ?_
  refine R_virt rfl rfl rfl rfl rfl rfl rfl (Nat.le_of_ble_eq_true rfl) (fun _ q => by cases q) (r_topNumber (by first | assumption | rfl) (by omega) (by omega)) ?_
  try refine R_top (y := nI _) (by assumption) ?_
  refine R_i2l rfl ?_
  refine R_lstore (lv' := [(4, _), (2, _), (0, _), (1, _)]) rfl rfl ?_
  refine R_iload_n rfl rfl ?_
  refine R_bipush (y := nI 9) rfl (by decide) ?_
  refine R_icF rfl (by first | assumption | exact icF (by decide) | exact ic_F (by omega) (by omega) (by simp only [icN, not_true_eq_false, not_false_eq_true] <;> omega) | exact ic_F0 (by omega) (by simp only [icN, not_true_eq_false, not_false_eq_true] <;> omega)) ?_
  refine R_iload_n rfl rfl ?_
  refine R_bipush (y := nI 10) rfl (by decide) ?_
  refine R_icF rfl (by first | assumption | exact icF (by decide) | exact ic_F (by omega) (by omega) (by simp only [icN, not_true_eq_false, not_false_eq_true] <;> omega) | exact ic_F0 (by omega) (by simp only [icN, not_true_eq_false, not_false_eq_true] <;> omega)) ?_
  refine R_lload rfl rfl ?_
  refine R_lconst rfl ?_
  refine R_lcmp rfl ?_
  refine R_ifT (pc' := 64) rfl rfl (by first | assumption | exact icT (by decide) | exact ic_T (by omega) (by omega) (by simp only [icN, not_true_eq_false, not_false_eq_true] <;> omega) | exact ic_T0 (by omega) (by simp only [icN, not_true_eq_false, not_false_eq_true] <;> omega)) ?_
  refine R_iload_n rfl rfl ?_
  refine R_bipush (y := nI 6) rfl (by decide) ?_
  refine R_icT (pc' := 77) rfl rfl (by first | assumption | exact icT (by decide) | exact ic_T (by omega) (by omega) (by simp only [icN, not_true_eq_false, not_false_eq_true] <;> omega) | exact ic_T0 (by omega) (by simp only [icN, not_true_eq_false, not_false_eq_true] <;> omega)) ?_
  refine R_iload_n rfl rfl ?_
  refine R_bipush (y := nI 7) rfl (by decide) ?_
  refine R_icT (pc' := 90) rfl rfl (by first | assumption | exact icT (by decide) | exact ic_T (by omega) (by omega) (by simp only [icN, not_true_eq_false, not_false_eq_true] <;> omega) | exact ic_T0 (by omega) (by simp only [icN, not_true_eq_false, not_false_eq_true] <;> omega)) ?_
  refine R_iload_n rfl rfl ?_
  refine R_bipush (y := nI 8) rfl (by decide) ?_
  refine R_icT (pc' := 103) rfl rfl (by first | assumption | exact icT (by decide) | exact ic_T (by omega) (by omega) (by simp only [icN, not_true_eq_false, not_false_eq_true] <;> omega) | exact ic_T0 (by omega) (by simp only [icN, not_true_eq_false, not_false_eq_true] <;> omega)) ?_
  refine R_iload_n rfl rfl ?_
  refine R_bipush (y := nI 9) rfl (by decide) ?_
  refine R_icT (pc' := 116) rfl rfl (by first | assumption | exact icT (by decide) | exact ic_T (by omega) (by omega) (by simp only [icN, not_true_eq_false, not_false_eq_true] <;> omega) | exact ic_T0 (by omega) (by simp only [icN, not_true_eq_false, not_false_eq_true] <;> omega)) ?_
  refine R_iload_n rfl rfl ?_
  refine R_bipush (y := nI 10) rfl (by decide) ?_
  refine R_icF rfl (by first | assumption | exact icF (by decide) | exact ic_F (by omega) (by omega) (by simp only [icN, not_true_eq_false, not_false_eq_true] <;> omega) | exact ic_F0 (by omega) (by simp only [icN, not_true_eq_false, not_false_eq_true] <;> omega)) ?_
  refine R_lload_n rfl rfl ?_
  refine R_lload rfl rfl ?_
  refine R_lrem rfl (by assumption) ?_
  refine R_goto (pc' := 141) rfl rfl ?_
  exact r_reckT hp hp1 hp0 ha hs hr
theorem r_reckZ10 {d : Nat} {M : Mem} {p : Nat} (hp : M 14 0 = nI p) (hp1 : p ≤ 1000) (hp0 : 1 < p) (hk1 : M 12 (p - 1 - 1) = nI 1) (hk0 : M 12 (p - 1 - 0) = nI 1) (hz : M 13 (p - 1 - 0) = 0) : CalR (d + 2) j_X9_reckon [.ref 0, .int (nI 10)] M (some (.int (nI 4))) (up2 M 9 0 (nI 4)) := by
  have hz2 : ¬ ¬ lg_cmp (0 : Int32).toInt64 0 = 0 := by decide
  refine CalR_of (md := md_X9_reckon) (d := d + 1) rfl (Nat.le_of_ble_eq_true rfl) ?_
  show WR (CalR (d + 1)) t_X9_reckon 9 (some .int) _ 0 [(0, .ref 0), (1, .int (nI 10))] [] _
  refine R_aload_n rfl rfl ?_
  refine R_iconst (y := nI 1) rfl (by decide) ?_
  refine R_virt rfl rfl rfl rfl rfl rfl rfl (Nat.le_of_ble_eq_true rfl) (fun _ q => by cases q) (r_topKind (by first | assumption | rfl) (by omega) (by omega)) ?_
  try refine R_top (y := nI _) (by assumption) ?_
  refine R_iconst (y := nI 1) rfl (by decide) ?_
  refine R_icF rfl (by first | assumption | exact icF (by decide) | exact ic_F (by omega) (by omega) (by simp only [icN, not_true_eq_false, not_false_eq_true] <;> omega) | exact ic_F0 (by omega) (by simp only [icN, not_true_eq_false, not_false_eq_true] <;> omega)) ?_
  refine R_aload_n rfl rfl ?_
  refine R_iconst (y := nI 0) rfl (by decide) ?_
  refine R_virt rfl rfl rfl rfl rfl rfl rfl (Nat.le_of_ble_eq_true rfl) (fun _ q => by cases q) (r_topKind (by first | assumption | rfl) (by omega) (by omega)) ?_
  try refine R_top (y := nI _) (by assumption) ?_
  refine R_iconst (y := nI 1) rfl (by decide) ?_
  refine R_icT (pc' := 24) rfl rfl (by first | assumption | exact icT (by decide) | exact ic_T (by omega) (by omega) (by simp only [icN, not_true_eq_false, not_false_eq_true] <;> omega) | exact ic_T0 (by omega) (by simp only [icN, not_true_eq_false, not_false_eq_true] <;> omega)) ?_
  refine R_aload_n rfl rfl ?_
  refine R_iconst (y := nI 1) rfl (by decide) ?_
  refine R_virt rfl rfl rfl rfl rfl rfl rfl (Nat.le_of_ble_eq_true rfl) (fun _ q => by cases q) (r_topNumber (by first | assumption | rfl) (by omega) (by omega)) ?_
  try refine R_top (y := nI _) (by assumption) ?_
  refine R_i2l rfl ?_
  refine R_lstore_n (lv' := [(2, _), (0, _), (1, _)]) rfl rfl ?_
  refine R_aload_n rfl rfl ?_
  refine R_iconst (y := nI 0) rfl (by decide) ?_
  refine R_virt rfl rfl rfl rfl rfl rfl rfl (Nat.le_of_ble_eq_true rfl) (fun _ q => by cases q) (r_topNumber (by first | assumption | rfl) (by omega) (by omega)) ?_
  try refine R_top (y := nI _) (by assumption) ?_
  refine R_i2l rfl ?_
  refine R_lstore (lv' := [(4, _), (2, _), (0, _), (1, _)]) rfl rfl ?_
  refine R_iload_n rfl rfl ?_
  refine R_bipush (y := nI 9) rfl (by decide) ?_
  refine R_icF rfl (by first | assumption | exact icF (by decide) | exact ic_F (by omega) (by omega) (by simp only [icN, not_true_eq_false, not_false_eq_true] <;> omega) | exact ic_F0 (by omega) (by simp only [icN, not_true_eq_false, not_false_eq_true] <;> omega)) ?_
  refine R_iload_n rfl rfl ?_
  refine R_bipush (y := nI 10) rfl (by decide) ?_
  refine R_icF rfl (by first | assumption | exact icF (by decide) | exact ic_F (by omega) (by omega) (by simp only [icN, not_true_eq_false, not_false_eq_true] <;> omega) | exact ic_F0 (by omega) (by simp only [icN, not_true_eq_false, not_false_eq_true] <;> omega)) ?_
  refine R_lload rfl rfl ?_
  refine R_lconst rfl ?_
  refine R_lcmp rfl ?_
  refine R_ifF rfl (by first | assumption | exact icF (by decide) | exact ic_F (by omega) (by omega) (by simp only [icN, not_true_eq_false, not_false_eq_true] <;> omega) | exact ic_F0 (by omega) (by simp only [icN, not_true_eq_false, not_false_eq_true] <;> omega)) ?_
  refine R_aload_n rfl rfl ?_
  refine R_iconst (y := nI 4) rfl (by decide) ?_
  refine R_virt rfl rfl rfl rfl rfl rfl rfl (Nat.le_of_ble_eq_true rfl) (fun _ q => by cases q) (r_ends) ?_
  try refine R_top (y := nI _) (by assumption) ?_
  exact R_iret rfl rfl (by first | trivial | exact Or.inl rfl | exact Or.inr rfl | assumption) ⟨rfl, rfl⟩
theorem r_reck11 {d : Nat} {M M' : Mem} {v : Int32} {p a s : Nat} (hp : M 14 0 = nI p) (hp1 : p ≤ 1000) (hp0 : 1 < p) (ha : M 10 0 = nI a) (hs : M 11 0 = nI s) (hk1 : M 12 (p - 1 - 1) = nI 1) (hk0 : M 12 (p - 1 - 0) = nI 1) (hr : (ovr (arR 11 (M 13 (p - 1 - 1)).toInt64 (M 13 (p - 1 - 0)).toInt64) ∧ v = nI 6 ∧ M' = up2 M 9 0 (nI 6)) ∨ (¬ ovr (arR 11 (M 13 (p - 1 - 1)).toInt64 (M 13 (p - 1 - 0)).toInt64) ∧ v = 0 ∧ M' = welM (pushM (lowM M (p - 2)) (p - 2) (nI 1) (arR 11 (M 13 (p - 1 - 1)).toInt64 (M 13 (p - 1 - 0)).toInt64).toInt32) (nI (a + 1)) s)) : CalR (d + 2) j_X9_reckon [.ref 0, .int (nI 11)] M (some (.int v)) M' := by
  refine CalR_of (md := md_X9_reckon) (d := d + 1) rfl (Nat.le_of_ble_eq_true rfl) ?_
  show WR (CalR (d + 1)) t_X9_reckon 9 (some .int) _ 0 [(0, .ref 0), (1, .int (nI 11))] [] _
  by_cases h : 0 ≤ lg_cmp (M 13 (p - 1 - 1)).toInt64 (M 13 (p - 1 - 0)).toInt64
  · have e : arR 11 (M 13 (p - 1 - 1)).toInt64 (M 13 (p - 1 - 0)).toInt64 = 0 := by unfold arR; rw [if_neg (by decide), if_neg (by decide), if_neg (by decide), if_neg (by decide), if_neg (by decide), if_pos h]
    rw [e] at hr
    refine R_aload_n rfl rfl ?_
    refine R_iconst (y := nI 1) rfl (by decide) ?_
    refine R_virt rfl rfl rfl rfl rfl rfl rfl (Nat.le_of_ble_eq_true rfl) (fun _ q => by cases q) (r_topKind (by first | assumption | rfl) (by omega) (by omega)) ?_
    try refine R_top (y := nI _) (by assumption) ?_
    refine R_iconst (y := nI 1) rfl (by decide) ?_
    refine R_icF rfl (by first | assumption | exact icF (by decide) | exact ic_F (by omega) (by omega) (by simp only [icN, not_true_eq_false, not_false_eq_true] <;> omega) | exact ic_F0 (by omega) (by simp only [icN, not_true_eq_false, not_false_eq_true] <;> omega)) ?_
    refine R_aload_n rfl rfl ?_
    refine R_iconst (y := nI 0) rfl (by decide) ?_
    refine R_virt rfl rfl rfl rfl rfl rfl rfl (Nat.le_of_ble_eq_true rfl) (fun _ q => by cases q) (r_topKind (by first | assumption | rfl) (by omega) (by omega)) ?_
    try refine R_top (y := nI _) (by assumption) ?_
    refine R_iconst (y := nI 1) rfl (by decide) ?_
    refine R_icT (pc' := 24) rfl rfl (by first | assumption | exact icT (by decide) | exact ic_T (by omega) (by omega) (by simp only [icN, not_true_eq_false, not_false_eq_true] <;> omega) | exact ic_T0 (by omega) (by simp only [icN, not_true_eq_false, not_false_eq_true] <;> omega)) ?_
    refine R_aload_n rfl rfl ?_
    refine R_iconst (y := nI 1) rfl (by decide) ?_
    refine R_virt rfl rfl rfl rfl rfl rfl rfl (Nat.le_of_ble_eq_true rfl) (fun _ q => by cases q) (r_topNumber (by first | assumption | rfl) (by omega) (by omega)) ?_
    try refine R_top (y := nI _) (by assumption) ?_
    refine R_i2l rfl ?_
    refine R_lstore_n (lv' := [(2, _), (0, _), (1, _)]) rfl rfl ?_
    refine R_aload_n rfl rfl ?_
    refine R_iconst (y := nI 0) rfl (by decide) ?_
    refine R_virt rfl rfl rfl rfl rfl rfl rfl (Nat.le_of_ble_eq_true rfl) (fun _ q => by cases q) (r_topNumber (by first | assumption | rfl) (by omega) (by omega)) ?_
    try refine R_top (y := nI _) (by assumption) ?_
    refine R_i2l rfl ?_
    refine R_lstore (lv' := [(4, _), (2, _), (0, _), (1, _)]) rfl rfl ?_
    refine R_iload_n rfl rfl ?_
    refine R_bipush (y := nI 9) rfl (by decide) ?_
    refine R_icF rfl (by first | assumption | exact icF (by decide) | exact ic_F (by omega) (by omega) (by simp only [icN, not_true_eq_false, not_false_eq_true] <;> omega) | exact ic_F0 (by omega) (by simp only [icN, not_true_eq_false, not_false_eq_true] <;> omega)) ?_
    refine R_iload_n rfl rfl ?_
    refine R_bipush (y := nI 10) rfl (by decide) ?_
    refine R_icT (pc' := 64) rfl rfl (by first | assumption | exact icT (by decide) | exact ic_T (by omega) (by omega) (by simp only [icN, not_true_eq_false, not_false_eq_true] <;> omega) | exact ic_T0 (by omega) (by simp only [icN, not_true_eq_false, not_false_eq_true] <;> omega)) ?_
    refine R_iload_n rfl rfl ?_
    refine R_bipush (y := nI 6) rfl (by decide) ?_
    refine R_icT (pc' := 77) rfl rfl (by first | assumption | exact icT (by decide) | exact ic_T (by omega) (by omega) (by simp only [icN, not_true_eq_false, not_false_eq_true] <;> omega) | exact ic_T0 (by omega) (by simp only [icN, not_true_eq_false, not_false_eq_true] <;> omega)) ?_
    refine R_iload_n rfl rfl ?_
    refine R_bipush (y := nI 7) rfl (by decide) ?_
    refine R_icT (pc' := 90) rfl rfl (by first | assumption | exact icT (by decide) | exact ic_T (by omega) (by omega) (by simp only [icN, not_true_eq_false, not_false_eq_true] <;> omega) | exact ic_T0 (by omega) (by simp only [icN, not_true_eq_false, not_false_eq_true] <;> omega)) ?_
    refine R_iload_n rfl rfl ?_
    refine R_bipush (y := nI 8) rfl (by decide) ?_
    refine R_icT (pc' := 103) rfl rfl (by first | assumption | exact icT (by decide) | exact ic_T (by omega) (by omega) (by simp only [icN, not_true_eq_false, not_false_eq_true] <;> omega) | exact ic_T0 (by omega) (by simp only [icN, not_true_eq_false, not_false_eq_true] <;> omega)) ?_
    refine R_iload_n rfl rfl ?_
    refine R_bipush (y := nI 9) rfl (by decide) ?_
    refine R_icT (pc' := 116) rfl rfl (by first | assumption | exact icT (by decide) | exact ic_T (by omega) (by omega) (by simp only [icN, not_true_eq_false, not_false_eq_true] <;> omega) | exact ic_T0 (by omega) (by simp only [icN, not_true_eq_false, not_false_eq_true] <;> omega)) ?_
    refine R_iload_n rfl rfl ?_
    refine R_bipush (y := nI 10) rfl (by decide) ?_
    refine R_icT (pc' := 129) rfl rfl (by first | assumption | exact icT (by decide) | exact ic_T (by omega) (by omega) (by simp only [icN, not_true_eq_false, not_false_eq_true] <;> omega) | exact ic_T0 (by omega) (by simp only [icN, not_true_eq_false, not_false_eq_true] <;> omega)) ?_
    refine R_lload_n rfl rfl ?_
    refine R_lload rfl rfl ?_
    refine R_lcmp rfl ?_
    refine R_ifT (pc' := 140) rfl rfl (by first | assumption | exact icT (by decide) | exact ic_T (by omega) (by omega) (by simp only [icN, not_true_eq_false, not_false_eq_true] <;> omega) | exact ic_T0 (by omega) (by simp only [icN, not_true_eq_false, not_false_eq_true] <;> omega)) ?_
    refine R_lconst rfl ?_
    exact r_reckT hp hp1 hp0 ha hs hr
  · have e : arR 11 (M 13 (p - 1 - 1)).toInt64 (M 13 (p - 1 - 0)).toInt64 = 1 := by unfold arR; rw [if_neg (by decide), if_neg (by decide), if_neg (by decide), if_neg (by decide), if_neg (by decide), if_neg h]
    rw [e] at hr
    refine R_aload_n rfl rfl ?_
    refine R_iconst (y := nI 1) rfl (by decide) ?_
    refine R_virt rfl rfl rfl rfl rfl rfl rfl (Nat.le_of_ble_eq_true rfl) (fun _ q => by cases q) (r_topKind (by first | assumption | rfl) (by omega) (by omega)) ?_
    try refine R_top (y := nI _) (by assumption) ?_
    refine R_iconst (y := nI 1) rfl (by decide) ?_
    refine R_icF rfl (by first | assumption | exact icF (by decide) | exact ic_F (by omega) (by omega) (by simp only [icN, not_true_eq_false, not_false_eq_true] <;> omega) | exact ic_F0 (by omega) (by simp only [icN, not_true_eq_false, not_false_eq_true] <;> omega)) ?_
    refine R_aload_n rfl rfl ?_
    refine R_iconst (y := nI 0) rfl (by decide) ?_
    refine R_virt rfl rfl rfl rfl rfl rfl rfl (Nat.le_of_ble_eq_true rfl) (fun _ q => by cases q) (r_topKind (by first | assumption | rfl) (by omega) (by omega)) ?_
    try refine R_top (y := nI _) (by assumption) ?_
    refine R_iconst (y := nI 1) rfl (by decide) ?_
    refine R_icT (pc' := 24) rfl rfl (by first | assumption | exact icT (by decide) | exact ic_T (by omega) (by omega) (by simp only [icN, not_true_eq_false, not_false_eq_true] <;> omega) | exact ic_T0 (by omega) (by simp only [icN, not_true_eq_false, not_false_eq_true] <;> omega)) ?_
    refine R_aload_n rfl rfl ?_
    refine R_iconst (y := nI 1) rfl (by decide) ?_
    refine R_virt rfl rfl rfl rfl rfl rfl rfl (Nat.le_of_ble_eq_true rfl) (fun _ q => by cases q) (r_topNumber (by first | assumption | rfl) (by omega) (by omega)) ?_
    try refine R_top (y := nI _) (by assumption) ?_
    refine R_i2l rfl ?_
    refine R_lstore_n (lv' := [(2, _), (0, _), (1, _)]) rfl rfl ?_
    refine R_aload_n rfl rfl ?_
    refine R_iconst (y := nI 0) rfl (by decide) ?_
    refine R_virt rfl rfl rfl rfl rfl rfl rfl (Nat.le_of_ble_eq_true rfl) (fun _ q => by cases q) (r_topNumber (by first | assumption | rfl) (by omega) (by omega)) ?_
    try refine R_top (y := nI _) (by assumption) ?_
    refine R_i2l rfl ?_
    refine R_lstore (lv' := [(4, _), (2, _), (0, _), (1, _)]) rfl rfl ?_
    refine R_iload_n rfl rfl ?_
    refine R_bipush (y := nI 9) rfl (by decide) ?_
    refine R_icF rfl (by first | assumption | exact icF (by decide) | exact ic_F (by omega) (by omega) (by simp only [icN, not_true_eq_false, not_false_eq_true] <;> omega) | exact ic_F0 (by omega) (by simp only [icN, not_true_eq_false, not_false_eq_true] <;> omega)) ?_
    refine R_iload_n rfl rfl ?_
    refine R_bipush (y := nI 10) rfl (by decide) ?_
    refine R_icT (pc' := 64) rfl rfl (by first | assumption | exact icT (by decide) | exact ic_T (by omega) (by omega) (by simp only [icN, not_true_eq_false, not_false_eq_true] <;> omega) | exact ic_T0 (by omega) (by simp only [icN, not_true_eq_false, not_false_eq_true] <;> omega)) ?_
    refine R_iload_n rfl rfl ?_
    refine R_bipush (y := nI 6) rfl (by decide) ?_
    refine R_icT (pc' := 77) rfl rfl (by first | assumption | exact icT (by decide) | exact ic_T (by omega) (by omega) (by simp only [icN, not_true_eq_false, not_false_eq_true] <;> omega) | exact ic_T0 (by omega) (by simp only [icN, not_true_eq_false, not_false_eq_true] <;> omega)) ?_
    refine R_iload_n rfl rfl ?_
    refine R_bipush (y := nI 7) rfl (by decide) ?_
    refine R_icT (pc' := 90) rfl rfl (by first | assumption | exact icT (by decide) | exact ic_T (by omega) (by omega) (by simp only [icN, not_true_eq_false, not_false_eq_true] <;> omega) | exact ic_T0 (by omega) (by simp only [icN, not_true_eq_false, not_false_eq_true] <;> omega)) ?_
    refine R_iload_n rfl rfl ?_
    refine R_bipush (y := nI 8) rfl (by decide) ?_
    refine R_icT (pc' := 103) rfl rfl (by first | assumption | exact icT (by decide) | exact ic_T (by omega) (by omega) (by simp only [icN, not_true_eq_false, not_false_eq_true] <;> omega) | exact ic_T0 (by omega) (by simp only [icN, not_true_eq_false, not_false_eq_true] <;> omega)) ?_
    refine R_iload_n rfl rfl ?_
    refine R_bipush (y := nI 9) rfl (by decide) ?_
    refine R_icT (pc' := 116) rfl rfl (by first | assumption | exact icT (by decide) | exact ic_T (by omega) (by omega) (by simp only [icN, not_true_eq_false, not_false_eq_true] <;> omega) | exact ic_T0 (by omega) (by simp only [icN, not_true_eq_false, not_false_eq_true] <;> omega)) ?_
    refine R_iload_n rfl rfl ?_
    refine R_bipush (y := nI 10) rfl (by decide) ?_
    refine R_icT (pc' := 129) rfl rfl (by first | assumption | exact icT (by decide) | exact ic_T (by omega) (by omega) (by simp only [icN, not_true_eq_false, not_false_eq_true] <;> omega) | exact ic_T0 (by omega) (by simp only [icN, not_true_eq_false, not_false_eq_true] <;> omega)) ?_
    refine R_lload_n rfl rfl ?_
    refine R_lload rfl rfl ?_
    refine R_lcmp rfl ?_
    refine R_ifF rfl (by first | assumption | exact icF (by decide) | exact ic_F (by omega) (by omega) (by simp only [icN, not_true_eq_false, not_false_eq_true] <;> omega) | exact ic_F0 (by omega) (by simp only [icN, not_true_eq_false, not_false_eq_true] <;> omega)) ?_
    refine R_lconst rfl ?_
    refine R_goto (pc' := 141) rfl rfl ?_
    exact r_reckT hp hp1 hp0 ha hs hr
