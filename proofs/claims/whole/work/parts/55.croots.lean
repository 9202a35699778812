/-! ===== the class: the pile, the globals, the protos ===== -/
section
variable {X : Ev} {d : Nat} {S : CS}
theorem c_fromAbove {p e : Nat} (hnp : xN X < 2 ^ 31) (hk : gSk S) (hp : cI S 2 0 0 = nI p) (hp1 : p ≤ 1000) (he : e < p) : CalC X (d + 1) j_X5_fromAbove [.ref (cA S 2 0), .int (nI e)] S (fun v S' => v = some (.long (cJ S 11 (p - 1 - e) 0)) ∧ S' = S) := by
  obtain ⟨e0, e1, e2, e3, e4, e9, e10, e11, e12, e13, e14, e15, e5, e7, p00, p01, p02, p03, p12, p13, p14, p23, p24, p25, p26, p310, p311, p41, -⟩ := hk
  refine CalC_of (md := md_X5_fromAbove) rfl (Nat.le_of_ble_eq_true rfl) ?_
  show WC X d t_X5_fromAbove 5 (some .long) _ 0 [(0, .ref (cA S 2 0)), (1, .int (nI e))] [] _
  refine C_iload_n rfl rfl ?_
  refine C_ifF rfl (by first | assumption | exact icF (by decide) | exact ic_F (by omega) (by omega) (by simp only [icN, not_true_eq_false, not_false_eq_true] <;> omega) | exact ic_F0 (by omega) (by simp only [icN, not_true_eq_false, not_false_eq_true] <;> omega)) ?_
  refine C_iload_n rfl rfl ?_
  first | refine C_aload_n rfl rfl ?_ | refine C_aload_nN rfl rfl ?_
  refine C_getI (t0 := 2) rfl rfl (by decide) rfl rfl (Or.inl rfl) rfl (by assumption) ?_
  try refine C_topi (y := nI _) (by assumption) ?_
  refine C_icF rfl (by first | assumption | exact icF (by decide) | exact ic_F (by omega) (by omega) (by simp only [icN, not_true_eq_false, not_false_eq_true] <;> omega) | exact ic_F0 (by omega) (by simp only [icN, not_true_eq_false, not_false_eq_true] <;> omega)) ?_
  first | refine C_aload_n rfl rfl ?_ | refine C_aload_nN rfl rfl ?_
  first | refine C_getR (t0 := 2) rfl rfl (by decide) rfl rfl (Or.inr ⟨_, rfl⟩) rfl (by assumption) (by assumption) ?_ | refine C_getN (t0 := 2) rfl rfl (by decide) rfl rfl (Or.inr ⟨_, rfl⟩) rfl (by assumption) (by assumption) ?_
  first | refine C_aload_n rfl rfl ?_ | refine C_aload_nN rfl rfl ?_
  refine C_getI (t0 := 2) rfl rfl (by decide) rfl rfl (Or.inl rfl) rfl (by assumption) ?_
  try refine C_topi (y := nI _) (by assumption) ?_
  refine C_iconst (y := nI 1) rfl (by decide) ?_
  first | refine C_isubN rfl (by omega) ?_ | refine C_isub rfl ?_
  refine C_iload_n rfl rfl ?_
  first | refine C_isubN rfl (by omega) ?_ | refine C_isub rfl ?_
  refine C_lald hnp rfl rfl rfl (by assumption) rfl (by first | assumption | exact (show _ < 16 from by omega) | exact (show _ < 17 from by omega) | exact (show _ < 40 from by omega) | exact (show _ < 1000 from by omega) | exact (show _ < 200 from by omega)) ?_
  refine C_goto (pc' := 29) rfl rfl ?_
  exact C_lret rfl rfl ⟨rfl, rfl⟩
theorem c_push5 {p : Nat} {v : Int64} (hk : gSk S) (hp : cI S 2 0 0 = nI p) (hp1 : p = 1000) : CalC X (d + 1) j_X5_push [.ref (cA S 2 0), .long v] S (fun v S' => v = some (.int (nI 0)) ∧ S' = S) := by
  obtain ⟨e0, e1, e2, e3, e4, e9, e10, e11, e12, e13, e14, e15, e5, e7, p00, p01, p02, p03, p12, p13, p14, p23, p24, p25, p26, p310, p311, p41, -⟩ := hk
  refine CalC_of (md := md_X5_push) rfl (Nat.le_of_ble_eq_true rfl) ?_
  show WC X d t_X5_push 5 (some .boolean) _ 0 [(0, .ref (cA S 2 0)), (1, .long v)] [] _
  first | refine C_aload_n rfl rfl ?_ | refine C_aload_nN rfl rfl ?_
  refine C_getI (t0 := 2) rfl rfl (by decide) rfl rfl (Or.inl rfl) rfl (by assumption) ?_
  try refine C_topi (y := nI _) (by assumption) ?_
  refine C_sipush (y := nI 1000) rfl (by decide) ?_
  refine C_icF rfl (by first | assumption | exact icF (by decide) | exact ic_F (by omega) (by omega) (by simp only [icN, not_true_eq_false, not_false_eq_true] <;> omega) | exact ic_F0 (by omega) (by simp only [icN, not_true_eq_false, not_false_eq_true] <;> omega)) ?_
  refine C_iconst (y := nI 0) rfl (by decide) ?_
  exact C_iret rfl rfl (by first | trivial | exact Or.inl rfl | exact Or.inr rfl | assumption | exact b01) ⟨rfl, rfl⟩
def pushC (S : CS) (p : Nat) (v : Int64) : CS := setI (setJ S 11 p 0 v) 2 0 0 (nI (p + 1))
theorem c_push {p : Nat} {v : Int64} (hnp : xN X < 2 ^ 31) (hk : gSk S) (hp : cI S 2 0 0 = nI p) (hp1 : p < 1000) : CalC X (d + 1) j_X5_push [.ref (cA S 2 0), .long v] S (fun w S' => w = some (.int (nI 1)) ∧ S' = pushC S p v) := by
  obtain ⟨e0, e1, e2, e3, e4, e9, e10, e11, e12, e13, e14, e15, e5, e7, p00, p01, p02, p03, p12, p13, p14, p23, p24, p25, p26, p310, p311, p41, -⟩ := hk
  refine CalC_of (md := md_X5_push) rfl (Nat.le_of_ble_eq_true rfl) ?_
  show WC X d t_X5_push 5 (some .boolean) _ 0 [(0, .ref (cA S 2 0)), (1, .long v)] [] _
  first | refine C_aload_n rfl rfl ?_ | refine C_aload_nN rfl rfl ?_
  refine C_getI (t0 := 2) rfl rfl (by decide) rfl rfl (Or.inl rfl) rfl (by assumption) ?_
  try refine C_topi (y := nI _) (by assumption) ?_
  refine C_sipush (y := nI 1000) rfl (by decide) ?_
  refine C_icT (pc' := 12) rfl rfl (by first | assumption | exact icT (by decide) | exact ic_T (by omega) (by omega) (by simp only [icN, not_true_eq_false, not_false_eq_true] <;> omega) | exact ic_T0 (by omega) (by simp only [icN, not_true_eq_false, not_false_eq_true] <;> omega)) ?_
  first | refine C_aload_n rfl rfl ?_ | refine C_aload_nN rfl rfl ?_
  first | refine C_getR (t0 := 2) rfl rfl (by decide) rfl rfl (Or.inr ⟨_, rfl⟩) rfl (by assumption) (by assumption) ?_ | refine C_getN (t0 := 2) rfl rfl (by decide) rfl rfl (Or.inr ⟨_, rfl⟩) rfl (by assumption) (by assumption) ?_
  first | refine C_aload_n rfl rfl ?_ | refine C_aload_nN rfl rfl ?_
  refine C_getI (t0 := 2) rfl rfl (by decide) rfl rfl (Or.inl rfl) rfl (by assumption) ?_
  try refine C_topi (y := nI _) (by assumption) ?_
  refine C_lload_n rfl rfl ?_
  refine C_last hnp rfl rfl rfl (by assumption) rfl (by first | assumption | exact (show _ < 16 from by omega) | exact (show _ < 17 from by omega) | exact (show _ < 40 from by omega) | exact (show _ < 1000 from by omega) | exact (show _ < 200 from by omega)) ?_
  first | refine C_aload_n rfl rfl ?_ | refine C_aload_nN rfl rfl ?_
  refine C_dup rfl rfl ?_
  refine C_getI (t0 := 2) rfl rfl (by decide) rfl rfl (Or.inl rfl) rfl (by assumption) ?_
  try refine C_topi (y := nI _) (by assumption) ?_
  refine C_iconst (y := nI 1) rfl (by decide) ?_
  first | refine C_iaddN rfl ?_ | refine C_iadd rfl ?_
  refine C_putI (t0 := 2) rfl rfl (by decide) rfl rfl (Or.inl rfl) rfl (by assumption) ?_
  refine C_iconst (y := nI 1) rfl (by decide) ?_
  exact C_iret rfl rfl (by first | trivial | exact Or.inl rfl | exact Or.inr rfl | assumption | exact b01) ⟨rfl, rfl⟩
def lowC (S : CS) (p : Nat) : CS := setI S 2 0 0 (nI p)
theorem c_lower {p n : Nat} (hk : gSk S) (hp : cI S 2 0 0 = nI p) (hp1 : p ≤ 1000) (hn : n ≤ p) : CalC X (d + 1) j_X5_lower [.ref (cA S 2 0), .int (nI n)] S (fun v S' => v = none ∧ S' = lowC S (p - n)) := by
  obtain ⟨e0, e1, e2, e3, e4, e9, e10, e11, e12, e13, e14, e15, e5, e7, p00, p01, p02, p03, p12, p13, p14, p23, p24, p25, p26, p310, p311, p41, -⟩ := hk
  have hv : (if nI 0 < nI (p - n) then nI (p - n) else nI 0) = nI (p - n) := by
    split
    · rfl
    · rename_i h
      have : p - n = 0 := by
        apply Classical.byContradiction
        intro q
        exact h (nI_lt (by omega) (by omega))
      rw [this]
  refine CalC_of (md := md_X5_lower) rfl (Nat.le_of_ble_eq_true rfl) ?_
  show WC X d t_X5_lower 5 none _ 0 [(0, .ref (cA S 2 0)), (1, .int (nI n))] [] _
  first | refine C_aload_n rfl rfl ?_ | refine C_aload_nN rfl rfl ?_
  refine C_iconst (y := nI 0) rfl (by decide) ?_
  first | refine C_aload_n rfl rfl ?_ | refine C_aload_nN rfl rfl ?_
  refine C_getI (t0 := 2) rfl rfl (by decide) rfl rfl (Or.inl rfl) rfl (by assumption) ?_
  try refine C_topi (y := nI _) (by assumption) ?_
  refine C_iload_n rfl rfl ?_
  first | refine C_isubN rfl (by omega) ?_ | refine C_isub rfl ?_
  refine C_max rfl rfl (Nat.le_of_ble_eq_true rfl) hv ?_
  refine C_putI (t0 := 2) rfl rfl (by decide) rfl rfl (Or.inl rfl) rfl (by assumption) ?_
  exact C_ret rfl rfl ⟨rfl, rfl⟩
theorem c_take {p : Nat} (hnp : xN X < 2 ^ 31) (hk : gSk S) (hp : cI S 2 0 0 = nI p) (hp1 : p ≤ 1000) (hp0 : 0 < p) : CalC X (d + 2) j_X5_take [.ref (cA S 2 0)] S (fun v S' => v = some (.long (cJ S 11 (p - 1) 0)) ∧ S' = lowC S (p - 1)) := by
  obtain ⟨e0, e1, e2, e3, e4, e9, e10, e11, e12, e13, e14, e15, e5, e7, p00, p01, p02, p03, p12, p13, p14, p23, p24, p25, p26, p310, p311, p41, -⟩ := id hk
  refine CalC_of (md := md_X5_take) (d := d + 1) rfl (Nat.le_of_ble_eq_true rfl) ?_
  show WC X (d + 1) t_X5_take 5 (some .long) _ 0 [(0, .ref (cA S 2 0))] [] _
  first | refine C_aload_n rfl rfl ?_ | refine C_aload_nN rfl rfl ?_
  refine C_iconst (y := nI 0) rfl (by decide) ?_
  refine C_virt (t0 := 2) rfl rfl rfl rfl (by decide) rfl rfl (by assumption) rfl rfl (Nat.le_of_ble_eq_true rfl) (c_fromAbove hnp hk hp hp1 hp0) ?_
  rintro _ _ ⟨rfl, rfl⟩
  refine C_lstore_n (lv' := [(1, _), (0, _)]) rfl rfl ?_
  first | refine C_aload_n rfl rfl ?_ | refine C_aload_nN rfl rfl ?_
  refine C_iconst (y := nI 1) rfl (by decide) ?_
  refine C_virt (t0 := 2) rfl rfl rfl rfl (by decide) rfl rfl (by assumption) rfl rfl (Nat.le_of_ble_eq_true rfl) (c_lower hk hp hp1 hp0) ?_
  rintro _ _ ⟨rfl, rfl⟩
  refine C_lload_n rfl rfl ?_
  exact C_lret rfl rfl ⟨rfl, rfl⟩
theorem c_ofFrame {p f b : Nat} (hk : gSk S) (hp : cI S 2 0 0 = nI p) (ht : cP S 2 2 0 = some (cA S 7 f)) (hf : cE S 7 f = true) (hb : cI S 7 2 f = nI b) (hbp : b ≤ p) : CalC X (d + 1) j_X5_ofFrame [.ref (cA S 2 0)] S (fun v S' => v = some (.int (nI (p - b))) ∧ S' = S) := by
  obtain ⟨e0, e1, e2, e3, e4, e9, e10, e11, e12, e13, e14, e15, e5, e7, p00, p01, p02, p03, p12, p13, p14, p23, p24, p25, p26, p310, p311, p41, -⟩ := hk
  refine CalC_of (md := md_X5_ofFrame) rfl (Nat.le_of_ble_eq_true rfl) ?_
  show WC X d t_X5_ofFrame 5 (some .int) _ 0 [(0, .ref (cA S 2 0))] [] _
  first | refine C_aload_n rfl rfl ?_ | refine C_aload_nN rfl rfl ?_
  refine C_getI (t0 := 2) rfl rfl (by decide) rfl rfl (Or.inl rfl) rfl (by assumption) ?_
  try refine C_topi (y := nI _) (by assumption) ?_
  first | refine C_aload_n rfl rfl ?_ | refine C_aload_nN rfl rfl ?_
  first | refine C_getR (t0 := 2) rfl rfl (by decide) rfl rfl (Or.inl ⟨_, rfl⟩) rfl (by assumption) (by assumption) ?_ | refine C_getN (t0 := 2) rfl rfl (by decide) rfl rfl (Or.inl ⟨_, rfl⟩) rfl (by assumption) (by assumption) ?_
  refine C_getI (t0 := 7) rfl rfl (by decide) rfl rfl (Or.inl rfl) rfl (by assumption) ?_
  try refine C_topi (y := nI _) (by assumption) ?_
  first | refine C_isubN rfl (by omega) ?_ | refine C_isub rfl ?_
  exact C_iret rfl rfl (by first | trivial | exact Or.inl rfl | exact Or.inr rfl | assumption | exact b01) ⟨rfl, rfl⟩
theorem c_globalAt {k : Nat} (hnp : xN X < 2 ^ 31) (hk : gSk S) (hk1 : k < 16) : CalC X (d + 1) j_X5_globalAt [.ref (cA S 2 0), .int (nI k)] S (fun v S' => v = some (.long (cJ S 12 k 0)) ∧ S' = S) := by
  obtain ⟨e0, e1, e2, e3, e4, e9, e10, e11, e12, e13, e14, e15, e5, e7, p00, p01, p02, p03, p12, p13, p14, p23, p24, p25, p26, p310, p311, p41, -⟩ := hk
  refine CalC_of (md := md_X5_globalAt) rfl (Nat.le_of_ble_eq_true rfl) ?_
  show WC X d t_X5_globalAt 5 (some .long) _ 0 [(0, .ref (cA S 2 0)), (1, .int (nI k))] [] _
  refine C_iload_n rfl rfl ?_
  refine C_ifF rfl (by first | assumption | exact icF (by decide) | exact ic_F (by omega) (by omega) (by simp only [icN, not_true_eq_false, not_false_eq_true] <;> omega) | exact ic_F0 (by omega) (by simp only [icN, not_true_eq_false, not_false_eq_true] <;> omega)) ?_
  refine C_iload_n rfl rfl ?_
  refine C_bipush (y := nI 16) rfl (by decide) ?_
  refine C_icF rfl (by first | assumption | exact icF (by decide) | exact ic_F (by omega) (by omega) (by simp only [icN, not_true_eq_false, not_false_eq_true] <;> omega) | exact ic_F0 (by omega) (by simp only [icN, not_true_eq_false, not_false_eq_true] <;> omega)) ?_
  first | refine C_aload_n rfl rfl ?_ | refine C_aload_nN rfl rfl ?_
  first | refine C_getR (t0 := 2) rfl rfl (by decide) rfl rfl (Or.inr ⟨_, rfl⟩) rfl (by assumption) (by assumption) ?_ | refine C_getN (t0 := 2) rfl rfl (by decide) rfl rfl (Or.inr ⟨_, rfl⟩) rfl (by assumption) (by assumption) ?_
  refine C_iload_n rfl rfl ?_
  refine C_lald hnp rfl rfl rfl (by assumption) rfl (by first | assumption | exact (show _ < 16 from by omega) | exact (show _ < 17 from by omega) | exact (show _ < 40 from by omega) | exact (show _ < 1000 from by omega) | exact (show _ < 200 from by omega)) ?_
  refine C_goto (pc' := 20) rfl rfl ?_
  exact C_lret rfl rfl ⟨rfl, rfl⟩
theorem c_putGlobal {k : Nat} {v : Int64} (hnp : xN X < 2 ^ 31) (hk : gSk S) (hk1 : k < 16) : CalC X (d + 1) j_X5_putGlobal [.ref (cA S 2 0), .int (nI k), .long v] S (fun v' S' => v' = none ∧ S' = setJ S 12 k 0 v) := by
  obtain ⟨e0, e1, e2, e3, e4, e9, e10, e11, e12, e13, e14, e15, e5, e7, p00, p01, p02, p03, p12, p13, p14, p23, p24, p25, p26, p310, p311, p41, -⟩ := hk
  refine CalC_of (md := md_X5_putGlobal) rfl (Nat.le_of_ble_eq_true rfl) ?_
  show WC X d t_X5_putGlobal 5 none _ 0 [(0, .ref (cA S 2 0)), (1, .int (nI k)), (2, .long v)] [] _
  refine C_iload_n rfl rfl ?_
  refine C_ifF rfl (by first | assumption | exact icF (by decide) | exact ic_F (by omega) (by omega) (by simp only [icN, not_true_eq_false, not_false_eq_true] <;> omega) | exact ic_F0 (by omega) (by simp only [icN, not_true_eq_false, not_false_eq_true] <;> omega)) ?_
  refine C_iload_n rfl rfl ?_
  refine C_bipush (y := nI 16) rfl (by decide) ?_
  refine C_icF rfl (by first | assumption | exact icF (by decide) | exact ic_F (by omega) (by omega) (by simp only [icN, not_true_eq_false, not_false_eq_true] <;> omega) | exact ic_F0 (by omega) (by simp only [icN, not_true_eq_false, not_false_eq_true] <;> omega)) ?_
  first | refine C_aload_n rfl rfl ?_ | refine C_aload_nN rfl rfl ?_
  first | refine C_getR (t0 := 2) rfl rfl (by decide) rfl rfl (Or.inr ⟨_, rfl⟩) rfl (by assumption) (by assumption) ?_ | refine C_getN (t0 := 2) rfl rfl (by decide) rfl rfl (Or.inr ⟨_, rfl⟩) rfl (by assumption) (by assumption) ?_
  refine C_iload_n rfl rfl ?_
  refine C_lload_n rfl rfl ?_
  refine C_last hnp rfl rfl rfl (by assumption) rfl (by first | assumption | exact (show _ < 16 from by omega) | exact (show _ < 17 from by omega) | exact (show _ < 40 from by omega) | exact (show _ < 1000 from by omega) | exact (show _ < 200 from by omega)) ?_
  exact C_ret rfl rfl ⟨rfl, rfl⟩
theorem c_protoOfR {k a : Nat} (hnp : xN X < 2 ^ 31) (hk : gSk S) (hk1 : k < 4) (h : cP S 13 k 0 = some a) : CalC X (d + 1) j_X5_protoOf [.ref (cA S 2 0), .int (nI k)] S (fun v S' => v = some (.ref a) ∧ S' = S) := by
  obtain ⟨e0, e1, e2, e3, e4, e9, e10, e11, e12, e13, e14, e15, e5, e7, p00, p01, p02, p03, p12, p13, p14, p23, p24, p25, p26, p310, p311, p41, -⟩ := hk
  refine CalC_of (md := md_X5_protoOf) rfl (Nat.le_of_ble_eq_true rfl) ?_
  show WC X d t_X5_protoOf 5 (some (.object "ProtoMachine$Thing")) _ 0 [(0, .ref (cA S 2 0)), (1, .int (nI k))] [] _
  refine C_iload_n rfl rfl ?_
  refine C_ifF rfl (by first | assumption | exact icF (by decide) | exact ic_F (by omega) (by omega) (by simp only [icN, not_true_eq_false, not_false_eq_true] <;> omega) | exact ic_F0 (by omega) (by simp only [icN, not_true_eq_false, not_false_eq_true] <;> omega)) ?_
  refine C_iload_n rfl rfl ?_
  first | refine C_aload_n rfl rfl ?_ | refine C_aload_nN rfl rfl ?_
  first | refine C_getR (t0 := 2) rfl rfl (by decide) rfl rfl (Or.inr ⟨_, rfl⟩) rfl (by assumption) (by assumption) ?_ | refine C_getN (t0 := 2) rfl rfl (by decide) rfl rfl (Or.inr ⟨_, rfl⟩) rfl (by assumption) (by assumption) ?_
  refine C_alen rfl (by decide) rfl (by assumption) ?_
  first | refine C_topi (y := nI 4) rfl ?_ | refine C_topi (y := nI 17) rfl ?_ | refine C_topi (y := nI 16) rfl ?_ | refine C_topi (y := nI 1000) rfl ?_ | refine C_topi (y := nI 200) rfl ?_ | refine C_topi (y := nI 40) rfl ?_ | refine C_topi (y := nI (xN X)) rfl ?_
  refine C_icF rfl (by first | assumption | exact icF (by decide) | exact ic_F (by omega) (by omega) (by simp only [icN, not_true_eq_false, not_false_eq_true] <;> omega) | exact ic_F0 (by omega) (by simp only [icN, not_true_eq_false, not_false_eq_true] <;> omega)) ?_
  first | refine C_aload_n rfl rfl ?_ | refine C_aload_nN rfl rfl ?_
  first | refine C_getR (t0 := 2) rfl rfl (by decide) rfl rfl (Or.inr ⟨_, rfl⟩) rfl (by assumption) (by assumption) ?_ | refine C_getN (t0 := 2) rfl rfl (by decide) rfl rfl (Or.inr ⟨_, rfl⟩) rfl (by assumption) (by assumption) ?_
  refine C_iload_n rfl rfl ?_
  first | refine C_aaldR hnp rfl rfl (by decide) rfl (by assumption) rfl (by first | assumption | exact (show _ < 4 from by omega) | exact (show _ < 2000 from by omega)) (by assumption) ?_ | refine C_aaldN hnp rfl rfl (by decide) rfl (by assumption) rfl (by first | assumption | exact (show _ < 4 from by omega) | exact (show _ < 2000 from by omega)) (by assumption) ?_
  refine C_goto (pc' := 23) rfl rfl ?_
  first | exact C_aret rfl rfl ⟨rfl, rfl⟩ | exact C_aretN rfl rfl ⟨rfl, rfl⟩
theorem c_protoOfN {k : Nat} (hnp : xN X < 2 ^ 31) (hk : gSk S) (hk1 : k < 4) (h : cP S 13 k 0 = none) : CalC X (d + 1) j_X5_protoOf [.ref (cA S 2 0), .int (nI k)] S (fun v S' => v = some .null ∧ S' = S) := by
  obtain ⟨e0, e1, e2, e3, e4, e9, e10, e11, e12, e13, e14, e15, e5, e7, p00, p01, p02, p03, p12, p13, p14, p23, p24, p25, p26, p310, p311, p41, -⟩ := hk
  refine CalC_of (md := md_X5_protoOf) rfl (Nat.le_of_ble_eq_true rfl) ?_
  show WC X d t_X5_protoOf 5 (some (.object "ProtoMachine$Thing")) _ 0 [(0, .ref (cA S 2 0)), (1, .int (nI k))] [] _
  refine C_iload_n rfl rfl ?_
  refine C_ifF rfl (by first | assumption | exact icF (by decide) | exact ic_F (by omega) (by omega) (by simp only [icN, not_true_eq_false, not_false_eq_true] <;> omega) | exact ic_F0 (by omega) (by simp only [icN, not_true_eq_false, not_false_eq_true] <;> omega)) ?_
  refine C_iload_n rfl rfl ?_
  first | refine C_aload_n rfl rfl ?_ | refine C_aload_nN rfl rfl ?_
  first | refine C_getR (t0 := 2) rfl rfl (by decide) rfl rfl (Or.inr ⟨_, rfl⟩) rfl (by assumption) (by assumption) ?_ | refine C_getN (t0 := 2) rfl rfl (by decide) rfl rfl (Or.inr ⟨_, rfl⟩) rfl (by assumption) (by assumption) ?_
  refine C_alen rfl (by decide) rfl (by assumption) ?_
  first | refine C_topi (y := nI 4) rfl ?_ | refine C_topi (y := nI 17) rfl ?_ | refine C_topi (y := nI 16) rfl ?_ | refine C_topi (y := nI 1000) rfl ?_ | refine C_topi (y := nI 200) rfl ?_ | refine C_topi (y := nI 40) rfl ?_ | refine C_topi (y := nI (xN X)) rfl ?_
  refine C_icF rfl (by first | assumption | exact icF (by decide) | exact ic_F (by omega) (by omega) (by simp only [icN, not_true_eq_false, not_false_eq_true] <;> omega) | exact ic_F0 (by omega) (by simp only [icN, not_true_eq_false, not_false_eq_true] <;> omega)) ?_
  first | refine C_aload_n rfl rfl ?_ | refine C_aload_nN rfl rfl ?_
  first | refine C_getR (t0 := 2) rfl rfl (by decide) rfl rfl (Or.inr ⟨_, rfl⟩) rfl (by assumption) (by assumption) ?_ | refine C_getN (t0 := 2) rfl rfl (by decide) rfl rfl (Or.inr ⟨_, rfl⟩) rfl (by assumption) (by assumption) ?_
  refine C_iload_n rfl rfl ?_
  first | refine C_aaldR hnp rfl rfl (by decide) rfl (by assumption) rfl (by first | assumption | exact (show _ < 4 from by omega) | exact (show _ < 2000 from by omega)) (by assumption) ?_ | refine C_aaldN hnp rfl rfl (by decide) rfl (by assumption) rfl (by first | assumption | exact (show _ < 4 from by omega) | exact (show _ < 2000 from by omega)) (by assumption) ?_
  refine C_goto (pc' := 23) rfl rfl ?_
  first | exact C_aret rfl rfl ⟨rfl, rfl⟩ | exact C_aretN rfl rfl ⟨rfl, rfl⟩
theorem c_putProtoR {k j : Nat} (hnp : xN X < 2 ^ 31) (hk : gSk S) (hk1 : k < 4) (hj : cE S 8 j = true) : CalC X (d + 1) j_X5_putProto [.ref (cA S 2 0), .int (nI k), .ref (cA S 8 j)] S (fun v S' => v = none ∧ S' = setP S 13 k 0 (some (cA S 8 j))) := by
  obtain ⟨e0, e1, e2, e3, e4, e9, e10, e11, e12, e13, e14, e15, e5, e7, p00, p01, p02, p03, p12, p13, p14, p23, p24, p25, p26, p310, p311, p41, -⟩ := hk
  refine CalC_of (md := md_X5_putProto) rfl (Nat.le_of_ble_eq_true rfl) ?_
  show WC X d t_X5_putProto 5 none _ 0 [(0, .ref (cA S 2 0)), (1, .int (nI k)), (2, .ref (cA S 8 j))] [] _
  refine C_iload_n rfl rfl ?_
  refine C_ifF rfl (by first | assumption | exact icF (by decide) | exact ic_F (by omega) (by omega) (by simp only [icN, not_true_eq_false, not_false_eq_true] <;> omega) | exact ic_F0 (by omega) (by simp only [icN, not_true_eq_false, not_false_eq_true] <;> omega)) ?_
  refine C_iload_n rfl rfl ?_
  first | refine C_aload_n rfl rfl ?_ | refine C_aload_nN rfl rfl ?_
  first | refine C_getR (t0 := 2) rfl rfl (by decide) rfl rfl (Or.inr ⟨_, rfl⟩) rfl (by assumption) (by assumption) ?_ | refine C_getN (t0 := 2) rfl rfl (by decide) rfl rfl (Or.inr ⟨_, rfl⟩) rfl (by assumption) (by assumption) ?_
  refine C_alen rfl (by decide) rfl (by assumption) ?_
  first | refine C_topi (y := nI 4) rfl ?_ | refine C_topi (y := nI 17) rfl ?_ | refine C_topi (y := nI 16) rfl ?_ | refine C_topi (y := nI 1000) rfl ?_ | refine C_topi (y := nI 200) rfl ?_ | refine C_topi (y := nI 40) rfl ?_ | refine C_topi (y := nI (xN X)) rfl ?_
  refine C_icF rfl (by first | assumption | exact icF (by decide) | exact ic_F (by omega) (by omega) (by simp only [icN, not_true_eq_false, not_false_eq_true] <;> omega) | exact ic_F0 (by omega) (by simp only [icN, not_true_eq_false, not_false_eq_true] <;> omega)) ?_
  first | refine C_aload_n rfl rfl ?_ | refine C_aload_nN rfl rfl ?_
  first | refine C_getR (t0 := 2) rfl rfl (by decide) rfl rfl (Or.inr ⟨_, rfl⟩) rfl (by assumption) (by assumption) ?_ | refine C_getN (t0 := 2) rfl rfl (by decide) rfl rfl (Or.inr ⟨_, rfl⟩) rfl (by assumption) (by assumption) ?_
  refine C_iload_n rfl rfl ?_
  first | refine C_aload_n rfl rfl ?_ | refine C_aload_nN rfl rfl ?_
  refine C_aast (cv := 0) (tv := 8) (iv := j) hnp rfl rfl (Or.inr ⟨rfl, rfl⟩) rfl (by assumption) rfl (show _ < 4 from by omega) rfl hj ?_
  exact C_ret rfl rfl ⟨rfl, rfl⟩
theorem c_putProtoN {k : Nat} (hnp : xN X < 2 ^ 31) (hk : gSk S) (hk1 : k < 4) : CalC X (d + 1) j_X5_putProto [.ref (cA S 2 0), .int (nI k), .null] S (fun v S' => v = none ∧ S' = setP S 13 k 0 none) := by
  obtain ⟨e0, e1, e2, e3, e4, e9, e10, e11, e12, e13, e14, e15, e5, e7, p00, p01, p02, p03, p12, p13, p14, p23, p24, p25, p26, p310, p311, p41, -⟩ := hk
  refine CalC_of (md := md_X5_putProto) (d := d) rfl (Nat.le_of_ble_eq_true rfl) ?_
  show WC X d t_X5_putProto 5 none _ 0 [(0, .ref (cA S 2 0)), (1, .int (nI k)), (2, .null)] [] _
  refine C_iload_n rfl rfl ?_
  refine C_ifF rfl (by first | assumption | exact icF (by decide) | exact ic_F (by omega) (by omega) (by simp only [icN, not_true_eq_false, not_false_eq_true] <;> omega) | exact ic_F0 (by omega) (by simp only [icN, not_true_eq_false, not_false_eq_true] <;> omega)) ?_
  refine C_iload_n rfl rfl ?_
  first | refine C_aload_n rfl rfl ?_ | refine C_aload_nN rfl rfl ?_
  first | refine C_getR (t0 := 2) rfl rfl (by decide) rfl rfl (Or.inr ⟨_, rfl⟩) rfl (by assumption) (by assumption) ?_ | refine C_getN (t0 := 2) rfl rfl (by decide) rfl rfl (Or.inr ⟨_, rfl⟩) rfl (by assumption) (by assumption) ?_
  refine C_alen rfl (by decide) rfl (by assumption) ?_
  first | refine C_topi (y := nI 4) rfl ?_ | refine C_topi (y := nI 17) rfl ?_ | refine C_topi (y := nI 16) rfl ?_ | refine C_topi (y := nI 1000) rfl ?_ | refine C_topi (y := nI 200) rfl ?_ | refine C_topi (y := nI 40) rfl ?_ | refine C_topi (y := nI (xN X)) rfl ?_
  refine C_icF rfl (by first | assumption | exact icF (by decide) | exact ic_F (by omega) (by omega) (by simp only [icN, not_true_eq_false, not_false_eq_true] <;> omega) | exact ic_F0 (by omega) (by simp only [icN, not_true_eq_false, not_false_eq_true] <;> omega)) ?_
  first | refine C_aload_n rfl rfl ?_ | refine C_aload_nN rfl rfl ?_
  first | refine C_getR (t0 := 2) rfl rfl (by decide) rfl rfl (Or.inr ⟨_, rfl⟩) rfl (by assumption) (by assumption) ?_ | refine C_getN (t0 := 2) rfl rfl (by decide) rfl rfl (Or.inr ⟨_, rfl⟩) rfl (by assumption) (by assumption) ?_
  refine C_iload_n rfl rfl ?_
  first | refine C_aload_n rfl rfl ?_ | refine C_aload_nN rfl rfl ?_
  refine C_aastN hnp rfl rfl (Or.inr rfl) rfl (by assumption) rfl (show _ < 4 from by omega) ?_
  exact C_ret rfl rfl ⟨rfl, rfl⟩
theorem c_hasL1 {f k m : Nat} (hf : cE S 7 f = true) (hm : cI S 7 4 f = nI m) (hm1 : m ≤ 16) (hk : k < m) : CalC X (d + 1) j_X1_hasLocal [.ref (cA S 7 f), .int (nI k)] S (fun v S' => v = some (.int (nI 1)) ∧ S' = S) := by
  refine CalC_of (md := md_X1_hasLocal) rfl (Nat.le_of_ble_eq_true rfl) ?_
  show WC X d t_X1_hasLocal 1 (some .boolean) _ 0 [(0, .ref (cA S 7 f)), (1, .int (nI k))] [] _
  refine C_iload_n rfl rfl ?_
  refine C_ifF rfl (by first | assumption | exact icF (by decide) | exact ic_F (by omega) (by omega) (by simp only [icN, not_true_eq_false, not_false_eq_true] <;> omega) | exact ic_F0 (by omega) (by simp only [icN, not_true_eq_false, not_false_eq_true] <;> omega)) ?_
  refine C_iload_n rfl rfl ?_
  first | refine C_aload_n rfl rfl ?_ | refine C_aload_nN rfl rfl ?_
  refine C_getI (t0 := 7) rfl rfl (by decide) rfl rfl (Or.inl rfl) rfl (by assumption) ?_
  try refine C_topi (y := nI _) (by assumption) ?_
  refine C_icF rfl (by first | assumption | exact icF (by decide) | exact ic_F (by omega) (by omega) (by simp only [icN, not_true_eq_false, not_false_eq_true] <;> omega) | exact ic_F0 (by omega) (by simp only [icN, not_true_eq_false, not_false_eq_true] <;> omega)) ?_
  refine C_iconst (y := nI 1) rfl (by decide) ?_
  refine C_goto (pc' := 17) rfl rfl ?_
  exact C_iret rfl rfl (by first | trivial | exact Or.inl rfl | exact Or.inr rfl | assumption | exact b01) ⟨rfl, rfl⟩
theorem c_hasL0 {f m : Nat} {x : Int32} (hf : cE S 7 f = true) (hm : cI S 7 4 f = nI m) (h : x < 0 ∨ nI m ≤ x) : CalC X (d + 1) j_X1_hasLocal [.ref (cA S 7 f), .int x] S (fun v S' => v = some (.int (nI 0)) ∧ S' = S) := by
  by_cases h1 : x < 0
  · refine CalC_of (md := md_X1_hasLocal) rfl (Nat.le_of_ble_eq_true rfl) ?_
    show WC X d t_X1_hasLocal 1 (some .boolean) _ 0 [(0, .ref (cA S 7 f)), (1, .int x)] [] _
    refine C_iload_n rfl rfl ?_
    refine C_ifT (pc' := 16) rfl rfl (h1) ?_
    refine C_iconst (y := nI 0) rfl (by decide) ?_
    exact C_iret rfl rfl (by first | trivial | exact Or.inl rfl | exact Or.inr rfl | assumption | exact b01) ⟨rfl, rfl⟩
  · have h2 : nI m ≤ x := h.resolve_left h1
    refine CalC_of (md := md_X1_hasLocal) rfl (Nat.le_of_ble_eq_true rfl) ?_
    show WC X d t_X1_hasLocal 1 (some .boolean) _ 0 [(0, .ref (cA S 7 f)), (1, .int x)] [] _
    refine C_iload_n rfl rfl ?_
    refine C_ifF rfl (h1) ?_
    refine C_iload_n rfl rfl ?_
    first | refine C_aload_n rfl rfl ?_ | refine C_aload_nN rfl rfl ?_
    refine C_getI (t0 := 7) rfl rfl (by decide) rfl rfl (Or.inl rfl) rfl (by assumption) ?_
    try refine C_topi (y := nI _) (by assumption) ?_
    refine C_icT (pc' := 16) rfl rfl (h2) ?_
    refine C_iconst (y := nI 0) rfl (by decide) ?_
    exact C_iret rfl rfl (by first | trivial | exact Or.inl rfl | exact Or.inr rfl | assumption | exact b01) ⟨rfl, rfl⟩
theorem c_valueAt {f k : Nat} (hnp : xN X < 2 ^ 31) (hf : cE S 7 f = true) (hv : cE S 17 f = true) (hp : cP S 7 5 f = some (cA S 17 f)) (hk : k ≤ 16) : CalC X (d + 1) j_X1_valueAt [.ref (cA S 7 f), .int (nI k)] S (fun v S' => v = some (.long (cJ S 17 k f)) ∧ S' = S) := by
  refine CalC_of (md := md_X1_valueAt) rfl (Nat.le_of_ble_eq_true rfl) ?_
  show WC X d t_X1_valueAt 1 (some .long) _ 0 [(0, .ref (cA S 7 f)), (1, .int (nI k))] [] _
  refine C_iload_n rfl rfl ?_
  refine C_ifF rfl (by first | assumption | exact icF (by decide) | exact ic_F (by omega) (by omega) (by simp only [icN, not_true_eq_false, not_false_eq_true] <;> omega) | exact ic_F0 (by omega) (by simp only [icN, not_true_eq_false, not_false_eq_true] <;> omega)) ?_
  refine C_iload_n rfl rfl ?_
  refine C_bipush (y := nI 16) rfl (by decide) ?_
  refine C_icF rfl (by first | assumption | exact icF (by decide) | exact ic_F (by omega) (by omega) (by simp only [icN, not_true_eq_false, not_false_eq_true] <;> omega) | exact ic_F0 (by omega) (by simp only [icN, not_true_eq_false, not_false_eq_true] <;> omega)) ?_
  first | refine C_aload_n rfl rfl ?_ | refine C_aload_nN rfl rfl ?_
  first | refine C_getR (t0 := 7) rfl rfl (by decide) rfl rfl (Or.inr ⟨_, rfl⟩) rfl (by assumption) (by assumption) ?_ | refine C_getN (t0 := 7) rfl rfl (by decide) rfl rfl (Or.inr ⟨_, rfl⟩) rfl (by assumption) (by assumption) ?_
  refine C_iload_n rfl rfl ?_
  refine C_lald hnp rfl rfl rfl (by assumption) rfl (by first | assumption | exact (show _ < 16 from by omega) | exact (show _ < 17 from by omega) | exact (show _ < 40 from by omega) | exact (show _ < 1000 from by omega) | exact (show _ < 200 from by omega)) ?_
  refine C_goto (pc' := 20) rfl rfl ?_
  exact C_lret rfl rfl ⟨rfl, rfl⟩
theorem c_fput {f k m : Nat} {v : Int64} (hnp : xN X < 2 ^ 31) (hf : cE S 7 f = true) (hv : cE S 17 f = true) (hp : cP S 7 5 f = some (cA S 17 f)) (hm : cI S 7 4 f = nI m) (hm1 : m ≤ 16) (hk : k < m) : CalC X (d + 2) j_X1_put [.ref (cA S 7 f), .int (nI k), .long v] S (fun v' S' => v' = none ∧ S' = setJ S 17 k f v) := by
  refine CalC_of (md := md_X1_put) (d := d + 1) rfl (Nat.le_of_ble_eq_true rfl) ?_
  show WC X (d + 1) t_X1_put 1 none _ 0 [(0, .ref (cA S 7 f)), (1, .int (nI k)), (2, .long v)] [] _
  first | refine C_aload_n rfl rfl ?_ | refine C_aload_nN rfl rfl ?_
  refine C_iload_n rfl rfl ?_
  refine C_virt (t0 := 7) rfl rfl rfl rfl (by decide) rfl rfl (by assumption) rfl rfl (Nat.le_of_ble_eq_true rfl) (c_hasL1 hf hm hm1 hk) ?_
  rintro _ _ ⟨rfl, rfl⟩
  try refine C_topi (y := nI _) (by assumption) ?_
  refine C_ifF rfl (by first | assumption | exact icF (by decide) | exact ic_F (by omega) (by omega) (by simp only [icN, not_true_eq_false, not_false_eq_true] <;> omega) | exact ic_F0 (by omega) (by simp only [icN, not_true_eq_false, not_false_eq_true] <;> omega)) ?_
  refine C_iload_n rfl rfl ?_
  refine C_bipush (y := nI 16) rfl (by decide) ?_
  refine C_icF rfl (by first | assumption | exact icF (by decide) | exact ic_F (by omega) (by omega) (by simp only [icN, not_true_eq_false, not_false_eq_true] <;> omega) | exact ic_F0 (by omega) (by simp only [icN, not_true_eq_false, not_false_eq_true] <;> omega)) ?_
  first | refine C_aload_n rfl rfl ?_ | refine C_aload_nN rfl rfl ?_
  first | refine C_getR (t0 := 7) rfl rfl (by decide) rfl rfl (Or.inr ⟨_, rfl⟩) rfl (by assumption) (by assumption) ?_ | refine C_getN (t0 := 7) rfl rfl (by decide) rfl rfl (Or.inr ⟨_, rfl⟩) rfl (by assumption) (by assumption) ?_
  refine C_iload_n rfl rfl ?_
  refine C_lload_n rfl rfl ?_
  refine C_last hnp rfl rfl rfl (by assumption) rfl (by first | assumption | exact (show _ < 16 from by omega) | exact (show _ < 17 from by omega) | exact (show _ < 40 from by omega) | exact (show _ < 1000 from by omega) | exact (show _ < 200 from by omega)) ?_
  exact C_ret rfl rfl ⟨rfl, rfl⟩
theorem c_addO {o : Nat} {v : Int64} (hnp : xN X < 2 ^ 31) (hk : gSk S) (ho : cI S 4 0 0 = nI o) (ho1 : o < 1000) : CalC X (d + 1) j_X4_add [.ref (cA S 4 0), .long v] S (fun v' S' => v' = none ∧ S' = setI (setJ S 15 o 0 v) 4 0 0 (nI (o + 1))) := by
  obtain ⟨e0, e1, e2, e3, e4, e9, e10, e11, e12, e13, e14, e15, e5, e7, p00, p01, p02, p03, p12, p13, p14, p23, p24, p25, p26, p310, p311, p41, -⟩ := hk
  refine CalC_of (md := md_X4_add) rfl (Nat.le_of_ble_eq_true rfl) ?_
  show WC X d t_X4_add 4 none _ 0 [(0, .ref (cA S 4 0)), (1, .long v)] [] _
  first | refine C_aload_n rfl rfl ?_ | refine C_aload_nN rfl rfl ?_
  refine C_getI (t0 := 4) rfl rfl (by decide) rfl rfl (Or.inl rfl) rfl (by assumption) ?_
  try refine C_topi (y := nI _) (by assumption) ?_
  refine C_sipush (y := nI 1000) rfl (by decide) ?_
  refine C_icF rfl (by first | assumption | exact icF (by decide) | exact ic_F (by omega) (by omega) (by simp only [icN, not_true_eq_false, not_false_eq_true] <;> omega) | exact ic_F0 (by omega) (by simp only [icN, not_true_eq_false, not_false_eq_true] <;> omega)) ?_
  first | refine C_aload_n rfl rfl ?_ | refine C_aload_nN rfl rfl ?_
  first | refine C_getR (t0 := 4) rfl rfl (by decide) rfl rfl (Or.inr ⟨_, rfl⟩) rfl (by assumption) (by assumption) ?_ | refine C_getN (t0 := 4) rfl rfl (by decide) rfl rfl (Or.inr ⟨_, rfl⟩) rfl (by assumption) (by assumption) ?_
  first | refine C_aload_n rfl rfl ?_ | refine C_aload_nN rfl rfl ?_
  refine C_getI (t0 := 4) rfl rfl (by decide) rfl rfl (Or.inl rfl) rfl (by assumption) ?_
  try refine C_topi (y := nI _) (by assumption) ?_
  refine C_lload_n rfl rfl ?_
  refine C_last hnp rfl rfl rfl (by assumption) rfl (by first | assumption | exact (show _ < 16 from by omega) | exact (show _ < 17 from by omega) | exact (show _ < 40 from by omega) | exact (show _ < 1000 from by omega) | exact (show _ < 200 from by omega)) ?_
  first | refine C_aload_n rfl rfl ?_ | refine C_aload_nN rfl rfl ?_
  refine C_dup rfl rfl ?_
  refine C_getI (t0 := 4) rfl rfl (by decide) rfl rfl (Or.inl rfl) rfl (by assumption) ?_
  try refine C_topi (y := nI _) (by assumption) ?_
  refine C_iconst (y := nI 1) rfl (by decide) ?_
  first | refine C_iaddN rfl ?_ | refine C_iadd rfl ?_
  refine C_putI (t0 := 4) rfl rfl (by decide) rfl rfl (Or.inl rfl) rfl (by assumption) ?_
  exact C_ret rfl rfl ⟨rfl, rfl⟩
theorem c_addN {o : Nat} {v : Int64} (hk : gSk S) (ho : cI S 4 0 0 = nI o) (ho1 : 1000 ≤ o) (ho2 : o < 2 ^ 31) : CalC X (d + 1) j_X4_add [.ref (cA S 4 0), .long v] S (fun v' S' => v' = none ∧ S' = setI S 4 0 0 (nI (o + 1))) := by
  obtain ⟨e0, e1, e2, e3, e4, e9, e10, e11, e12, e13, e14, e15, e5, e7, p00, p01, p02, p03, p12, p13, p14, p23, p24, p25, p26, p310, p311, p41, -⟩ := hk
  refine CalC_of (md := md_X4_add) rfl (Nat.le_of_ble_eq_true rfl) ?_
  show WC X d t_X4_add 4 none _ 0 [(0, .ref (cA S 4 0)), (1, .long v)] [] _
  first | refine C_aload_n rfl rfl ?_ | refine C_aload_nN rfl rfl ?_
  refine C_getI (t0 := 4) rfl rfl (by decide) rfl rfl (Or.inl rfl) rfl (by assumption) ?_
  try refine C_topi (y := nI _) (by assumption) ?_
  refine C_sipush (y := nI 1000) rfl (by decide) ?_
  refine C_icT (pc' := 20) rfl rfl (by first | assumption | exact icT (by decide) | exact ic_T (by omega) (by omega) (by simp only [icN, not_true_eq_false, not_false_eq_true] <;> omega) | exact ic_T0 (by omega) (by simp only [icN, not_true_eq_false, not_false_eq_true] <;> omega)) ?_
  first | refine C_aload_n rfl rfl ?_ | refine C_aload_nN rfl rfl ?_
  refine C_dup rfl rfl ?_
  refine C_getI (t0 := 4) rfl rfl (by decide) rfl rfl (Or.inl rfl) rfl (by assumption) ?_
  try refine C_topi (y := nI _) (by assumption) ?_
  refine C_iconst (y := nI 1) rfl (by decide) ?_
  first | refine C_iaddN rfl ?_ | refine C_iadd rfl ?_
  refine C_putI (t0 := 4) rfl rfl (by decide) rfl rfl (Or.inl rfl) rfl (by assumption) ?_
  exact C_ret rfl rfl ⟨rfl, rfl⟩
end
