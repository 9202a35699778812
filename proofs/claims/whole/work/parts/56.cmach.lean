/-! ===== the class: small methods of the machine ===== -/
section
variable {X : Ev} {d : Nat} {S : CS}
theorem c_bring5 {v : Int64} (hk : gSk S) (hp : cI S 2 0 0 = nI 1000) : CalC X (d + 2) j_X8_bring [.ref (cA S 0 0), .long v] S (fun w S' => w = some (.int (nI 5)) ∧ S' = S) := by
  obtain ⟨e0, e1, e2, e3, e4, e9, e10, e11, e12, e13, e14, e15, e5, e7, p00, p01, p02, p03, p12, p13, p14, p23, p24, p25, p26, p310, p311, p41, -⟩ := id hk
  refine CalC_of (md := md_X8_bring) (d := d + 1) rfl (Nat.le_of_ble_eq_true rfl) ?_
  show WC X (d + 1) t_X8_bring 8 (some .int) _ 0 [(0, .ref (cA S 0 0)), (1, .long v)] [] _
  first | refine C_aload_n rfl rfl ?_ | refine C_aload_nN rfl rfl ?_
  first | refine C_getR (t0 := 0) rfl rfl (by decide) rfl rfl (Or.inl ⟨_, rfl⟩) rfl (by assumption) (by assumption) ?_ | refine C_getN (t0 := 0) rfl rfl (by decide) rfl rfl (Or.inl ⟨_, rfl⟩) rfl (by assumption) (by assumption) ?_
  refine C_lload_n rfl rfl ?_
  refine C_virt (t0 := 2) rfl rfl rfl rfl (by decide) rfl rfl (by assumption) rfl rfl (Nat.le_of_ble_eq_true rfl) (c_push5 hk hp rfl) ?_
  rintro _ _ ⟨rfl, rfl⟩
  try refine C_topi (y := nI _) (by assumption) ?_
  refine C_ifT (pc' := 15) rfl rfl (by first | assumption | exact icT (by decide) | exact ic_T (by omega) (by omega) (by simp only [icN, not_true_eq_false, not_false_eq_true] <;> omega) | exact ic_T0 (by omega) (by simp only [icN, not_true_eq_false, not_false_eq_true] <;> omega)) ?_
  refine C_iconst (y := nI 5) rfl (by decide) ?_
  exact C_iret rfl rfl (by first | trivial | exact Or.inl rfl | exact Or.inr rfl | assumption | exact b01) ⟨rfl, rfl⟩
theorem c_bring {p : Nat} {v : Int64} (hnp : xN X < 2 ^ 31) (hk : gSk S) (hp : cI S 2 0 0 = nI p) (hp1 : p < 1000) : CalC X (d + 2) j_X8_bring [.ref (cA S 0 0), .long v] S (fun w S' => w = some (.int (nI 0)) ∧ S' = pushC S p v) := by
  obtain ⟨e0, e1, e2, e3, e4, e9, e10, e11, e12, e13, e14, e15, e5, e7, p00, p01, p02, p03, p12, p13, p14, p23, p24, p25, p26, p310, p311, p41, -⟩ := id hk
  refine CalC_of (md := md_X8_bring) (d := d + 1) rfl (Nat.le_of_ble_eq_true rfl) ?_
  show WC X (d + 1) t_X8_bring 8 (some .int) _ 0 [(0, .ref (cA S 0 0)), (1, .long v)] [] _
  first | refine C_aload_n rfl rfl ?_ | refine C_aload_nN rfl rfl ?_
  first | refine C_getR (t0 := 0) rfl rfl (by decide) rfl rfl (Or.inl ⟨_, rfl⟩) rfl (by assumption) (by assumption) ?_ | refine C_getN (t0 := 0) rfl rfl (by decide) rfl rfl (Or.inl ⟨_, rfl⟩) rfl (by assumption) (by assumption) ?_
  refine C_lload_n rfl rfl ?_
  refine C_virt (t0 := 2) rfl rfl rfl rfl (by decide) rfl rfl (by assumption) rfl rfl (Nat.le_of_ble_eq_true rfl) (c_push hnp hk hp hp1) ?_
  rintro _ _ ⟨rfl, rfl⟩
  try refine C_topi (y := nI _) (by assumption) ?_
  refine C_ifF rfl (by first | assumption | exact icF (by decide) | exact ic_F (by omega) (by omega) (by simp only [icN, not_true_eq_false, not_false_eq_true] <;> omega) | exact ic_F0 (by omega) (by simp only [icN, not_true_eq_false, not_false_eq_true] <;> omega)) ?_
  refine C_iconst (y := nI 0) rfl (by decide) ?_
  refine C_goto (pc' := 16) rfl rfl ?_
  exact C_iret rfl rfl (by first | trivial | exact Or.inl rfl | exact Or.inr rfl | assumption | exact b01) ⟨rfl, rfl⟩
theorem c_letGo {p n : Nat} (hk : gSk S) (hp : cI S 2 0 0 = nI p) (hp1 : p ≤ 1000) (hn : n ≤ p) : CalC X (d + 2) j_X8_letGo [.ref (cA S 0 0), .int (nI n)] S (fun v S' => v = some (.int (nI 0)) ∧ S' = lowC S (p - n)) := by
  obtain ⟨e0, e1, e2, e3, e4, e9, e10, e11, e12, e13, e14, e15, e5, e7, p00, p01, p02, p03, p12, p13, p14, p23, p24, p25, p26, p310, p311, p41, -⟩ := id hk
  refine CalC_of (md := md_X8_letGo) (d := d + 1) rfl (Nat.le_of_ble_eq_true rfl) ?_
  show WC X (d + 1) t_X8_letGo 8 (some .int) _ 0 [(0, .ref (cA S 0 0)), (1, .int (nI n))] [] _
  first | refine C_aload_n rfl rfl ?_ | refine C_aload_nN rfl rfl ?_
  first | refine C_getR (t0 := 0) rfl rfl (by decide) rfl rfl (Or.inl ⟨_, rfl⟩) rfl (by assumption) (by assumption) ?_ | refine C_getN (t0 := 0) rfl rfl (by decide) rfl rfl (Or.inl ⟨_, rfl⟩) rfl (by assumption) (by assumption) ?_
  refine C_iload_n rfl rfl ?_
  refine C_virt (t0 := 2) rfl rfl rfl rfl (by decide) rfl rfl (by assumption) rfl rfl (Nat.le_of_ble_eq_true rfl) (c_lower hk hp hp1 hn) ?_
  rintro _ _ ⟨rfl, rfl⟩
  refine C_iconst (y := nI 0) rfl (by decide) ?_
  exact C_iret rfl rfl (by first | trivial | exact Or.inl rfl | exact Or.inr rfl | assumption | exact b01) ⟨rfl, rfl⟩
theorem c_exchange {p n : Nat} {v : Int64} (hnp : xN X < 2 ^ 31) (hk : gSk S) (hp : cI S 2 0 0 = nI p) (hp1 : p ≤ 1000) (hn : n ≤ p) (hn0 : 0 < n) : CalC X (d + 2) j_X8_exchange [.ref (cA S 0 0), .int (nI n), .long v] S (fun w S' => w = some (.int (nI 0)) ∧ S' = pushC (lowC S (p - n)) (p - n) v) := by
  obtain ⟨e0, e1, e2, e3, e4, e9, e10, e11, e12, e13, e14, e15, e5, e7, p00, p01, p02, p03, p12, p13, p14, p23, p24, p25, p26, p310, p311, p41, -⟩ := id hk
  refine CalC_of (md := md_X8_exchange) (d := d + 1) rfl (Nat.le_of_ble_eq_true rfl) ?_
  show WC X (d + 1) t_X8_exchange 8 (some .int) _ 0 [(0, .ref (cA S 0 0)), (1, .int (nI n)), (2, .long v)] [] _
  first | refine C_aload_n rfl rfl ?_ | refine C_aload_nN rfl rfl ?_
  first | refine C_getR (t0 := 0) rfl rfl (by decide) rfl rfl (Or.inl ⟨_, rfl⟩) rfl (by assumption) (by assumption) ?_ | refine C_getN (t0 := 0) rfl rfl (by decide) rfl rfl (Or.inl ⟨_, rfl⟩) rfl (by assumption) (by assumption) ?_
  refine C_iload_n rfl rfl ?_
  refine C_virt (t0 := 2) rfl rfl rfl rfl (by decide) rfl rfl (by assumption) rfl rfl (Nat.le_of_ble_eq_true rfl) (c_lower hk hp hp1 hn) ?_
  rintro _ _ ⟨rfl, rfl⟩
  first | refine C_aload_n rfl rfl ?_ | refine C_aload_nN rfl rfl ?_
  first | refine C_getR (t0 := 0) rfl rfl (by decide) rfl rfl (Or.inl ⟨_, rfl⟩) rfl (by assumption) (by assumption) ?_ | refine C_getN (t0 := 0) rfl rfl (by decide) rfl rfl (Or.inl ⟨_, rfl⟩) rfl (by assumption) (by assumption) ?_
  refine C_lload_n rfl rfl ?_
  refine C_virt (t0 := 2) rfl rfl rfl rfl (by decide) rfl rfl (by assumption) rfl rfl (Nat.le_of_ble_eq_true rfl) (c_push (p := p - n) hnp hk rfl (by omega)) ?_
  rintro _ _ ⟨rfl, rfl⟩
  try refine C_topi (y := nI _) (by assumption) ?_
  refine C_pop rfl rfl ?_
  refine C_iconst (y := nI 0) rfl (by decide) ?_
  exact C_iret rfl rfl (by first | trivial | exact Or.inl rfl | exact Or.inr rfl | assumption | exact b01) ⟨rfl, rfl⟩
theorem c_swap {p : Nat} (hnp : xN X < 2 ^ 31) (hk : gSk S) (hp : cI S 2 0 0 = nI p) (hp1 : p ≤ 1000) (hp0 : 1 < p) : CalC X (d + 3) j_X8_swap [.ref (cA S 0 0)] S (fun w S' => w = some (.int (nI 0)) ∧ S' = pushC (pushC (lowC (lowC S (p - 1)) (p - 1 - 1)) (p - 1 - 1) (cJ S 11 (p - 1) 0)) (p - 1 - 1 + 1) (cJ S 11 (p - 1 - 1) 0)) := by
  obtain ⟨e0, e1, e2, e3, e4, e9, e10, e11, e12, e13, e14, e15, e5, e7, p00, p01, p02, p03, p12, p13, p14, p23, p24, p25, p26, p310, p311, p41, -⟩ := id hk
  refine CalC_of (md := md_X8_swap) (d := d + 2) rfl (Nat.le_of_ble_eq_true rfl) ?_
  show WC X (d + 2) t_X8_swap 8 (some .int) _ 0 [(0, .ref (cA S 0 0))] [] _
  first | refine C_aload_n rfl rfl ?_ | refine C_aload_nN rfl rfl ?_
  first | refine C_getR (t0 := 0) rfl rfl (by decide) rfl rfl (Or.inl ⟨_, rfl⟩) rfl (by assumption) (by assumption) ?_ | refine C_getN (t0 := 0) rfl rfl (by decide) rfl rfl (Or.inl ⟨_, rfl⟩) rfl (by assumption) (by assumption) ?_
  refine C_virt (t0 := 2) rfl rfl rfl rfl (by decide) rfl rfl (by assumption) rfl rfl (Nat.le_of_ble_eq_true rfl) (c_take (p := p) hnp hk hp hp1 (by omega)) ?_
  rintro _ _ ⟨rfl, rfl⟩
  refine C_lstore_n (lv' := [(1, _), (0, _)]) rfl rfl ?_
  first | refine C_aload_n rfl rfl ?_ | refine C_aload_nN rfl rfl ?_
  first | refine C_getR (t0 := 0) rfl rfl (by decide) rfl rfl (Or.inl ⟨_, rfl⟩) rfl (by assumption) (by assumption) ?_ | refine C_getN (t0 := 0) rfl rfl (by decide) rfl rfl (Or.inl ⟨_, rfl⟩) rfl (by assumption) (by assumption) ?_
  refine C_virt (t0 := 2) rfl rfl rfl rfl (by decide) rfl rfl (by assumption) rfl rfl (Nat.le_of_ble_eq_true rfl) (c_take (p := p - 1) hnp hk rfl (by omega) (by omega)) ?_
  rintro _ _ ⟨rfl, rfl⟩
  refine C_lstore_n (lv' := [(3, _), (1, _), (0, _)]) rfl rfl ?_
  first | refine C_aload_n rfl rfl ?_ | refine C_aload_nN rfl rfl ?_
  first | refine C_getR (t0 := 0) rfl rfl (by decide) rfl rfl (Or.inl ⟨_, rfl⟩) rfl (by assumption) (by assumption) ?_ | refine C_getN (t0 := 0) rfl rfl (by decide) rfl rfl (Or.inl ⟨_, rfl⟩) rfl (by assumption) (by assumption) ?_
  refine C_lload_n rfl rfl ?_
  refine C_virt (t0 := 2) rfl rfl rfl rfl (by decide) rfl rfl (by assumption) rfl rfl (Nat.le_of_ble_eq_true rfl) (c_push (p := p - 1 - 1) hnp hk rfl (by omega)) ?_
  rintro _ _ ⟨rfl, rfl⟩
  try refine C_topi (y := nI _) (by assumption) ?_
  refine C_pop rfl rfl ?_
  first | refine C_aload_n rfl rfl ?_ | refine C_aload_nN rfl rfl ?_
  first | refine C_getR (t0 := 0) rfl rfl (by decide) rfl rfl (Or.inl ⟨_, rfl⟩) rfl (by assumption) (by assumption) ?_ | refine C_getN (t0 := 0) rfl rfl (by decide) rfl rfl (Or.inl ⟨_, rfl⟩) rfl (by assumption) (by assumption) ?_
  refine C_lload_n rfl rfl ?_
  refine C_virt (t0 := 2) rfl rfl rfl rfl (by decide) rfl rfl (by assumption) rfl rfl (Nat.le_of_ble_eq_true rfl) (c_push (p := p - 1 - 1 + 1) hnp hk rfl (by omega)) ?_
  rintro _ _ ⟨rfl, rfl⟩
  try refine C_topi (y := nI _) (by assumption) ?_
  refine C_pop rfl rfl ?_
  refine C_iconst (y := nI 0) rfl (by decide) ?_
  exact C_iret rfl rfl (by first | trivial | exact Or.inl rfl | exact Or.inr rfl | assumption | exact b01) ⟨rfl, rfl⟩
theorem c_placeOf {l : Nat} (hnp : xN X < 2 ^ 31) (hk : gSk S) (hl : l < 200) : CalC X (d + 1) j_X0_placeOf [.ref (cA S 1 0), .int (nI l)] S (fun v S' => v = some (.int (cI S 10 l 0)) ∧ S' = S) := by
  obtain ⟨e0, e1, e2, e3, e4, e9, e10, e11, e12, e13, e14, e15, e5, e7, p00, p01, p02, p03, p12, p13, p14, p23, p24, p25, p26, p310, p311, p41, -⟩ := id hk
  refine CalC_of (md := md_X0_placeOf) rfl (Nat.le_of_ble_eq_true rfl) ?_
  show WC X d t_X0_placeOf 0 (some .int) _ 0 [(0, .ref (cA S 1 0)), (1, .int (nI l))] [] _
  refine C_iload_n rfl rfl ?_
  refine C_ifF rfl (by first | assumption | exact icF (by decide) | exact ic_F (by omega) (by omega) (by simp only [icN, not_true_eq_false, not_false_eq_true] <;> omega) | exact ic_F0 (by omega) (by simp only [icN, not_true_eq_false, not_false_eq_true] <;> omega)) ?_
  refine C_iload_n rfl rfl ?_
  refine C_sipush (y := nI 200) rfl (by decide) ?_
  refine C_icF rfl (by first | assumption | exact icF (by decide) | exact ic_F (by omega) (by omega) (by simp only [icN, not_true_eq_false, not_false_eq_true] <;> omega) | exact ic_F0 (by omega) (by simp only [icN, not_true_eq_false, not_false_eq_true] <;> omega)) ?_
  first | refine C_aload_n rfl rfl ?_ | refine C_aload_nN rfl rfl ?_
  first | refine C_getR (t0 := 1) rfl rfl (by decide) rfl rfl (Or.inr ⟨_, rfl⟩) rfl (by assumption) (by assumption) ?_ | refine C_getN (t0 := 1) rfl rfl (by decide) rfl rfl (Or.inr ⟨_, rfl⟩) rfl (by assumption) (by assumption) ?_
  refine C_iload_n rfl rfl ?_
  refine C_iald hnp rfl rfl rfl (by assumption) rfl (by first | assumption | exact (show _ < 16 from by omega) | exact (show _ < 17 from by omega) | exact (show _ < 40 from by omega) | exact (show _ < 1000 from by omega) | exact (show _ < 200 from by omega)) ?_
  try refine C_topi (y := nI _) (by assumption) ?_
  refine C_goto (pc' := 24) rfl rfl ?_
  exact C_iret rfl rfl (by first | trivial | exact Or.inl rfl | exact Or.inr rfl | assumption | exact b01) ⟨rfl, rfl⟩
theorem c_jump {l : Nat} (hnp : xN X < 2 ^ 31) (hk : gSk S) (hl : l < 200) : CalC X (d + 2) j_X8_jump [.ref (cA S 0 0), .int (nI l)] S (fun v S' => v = some (.int (nI 0)) ∧ S' = setI S 0 7 0 (cI S 10 l 0)) := by
  obtain ⟨e0, e1, e2, e3, e4, e9, e10, e11, e12, e13, e14, e15, e5, e7, p00, p01, p02, p03, p12, p13, p14, p23, p24, p25, p26, p310, p311, p41, -⟩ := id hk
  refine CalC_of (md := md_X8_jump) (d := d + 1) rfl (Nat.le_of_ble_eq_true rfl) ?_
  show WC X (d + 1) t_X8_jump 8 (some .int) _ 0 [(0, .ref (cA S 0 0)), (1, .int (nI l))] [] _
  first | refine C_aload_n rfl rfl ?_ | refine C_aload_nN rfl rfl ?_
  first | refine C_aload_n rfl rfl ?_ | refine C_aload_nN rfl rfl ?_
  first | refine C_getR (t0 := 0) rfl rfl (by decide) rfl rfl (Or.inl ⟨_, rfl⟩) rfl (by assumption) (by assumption) ?_ | refine C_getN (t0 := 0) rfl rfl (by decide) rfl rfl (Or.inl ⟨_, rfl⟩) rfl (by assumption) (by assumption) ?_
  refine C_iload_n rfl rfl ?_
  refine C_virt (t0 := 1) rfl rfl rfl rfl (by decide) rfl rfl (by assumption) rfl rfl (Nat.le_of_ble_eq_true rfl) (c_placeOf hnp hk hl) ?_
  rintro _ _ ⟨rfl, rfl⟩
  try refine C_topi (y := nI _) (by assumption) ?_
  refine C_putI (t0 := 0) rfl rfl (by decide) rfl rfl (Or.inl rfl) rfl (by assumption) ?_
  refine C_iconst (y := nI 0) rfl (by decide) ?_
  exact C_iret rfl rfl (by first | trivial | exact Or.inl rfl | exact Or.inr rfl | assumption | exact b01) ⟨rfl, rfl⟩
theorem c_wordAt {a w : Nat} (hnp : xN X < 2 ^ 31) (hk : gSk S) (hw : cI S 1 0 0 = nI w) (hw2 : w ≤ 2000) (ha : a < w) (hp : cP S 9 a 0 = some (cA S 5 a)) : CalC X (d + 1) j_X0_wordAt [.ref (cA S 1 0), .int (nI a)] S (fun v S' => v = some (.ref (cA S 5 a)) ∧ S' = S) := by
  obtain ⟨e0, e1, e2, e3, e4, e9, e10, e11, e12, e13, e14, e15, e5, e7, p00, p01, p02, p03, p12, p13, p14, p23, p24, p25, p26, p310, p311, p41, -⟩ := id hk
  refine CalC_of (md := md_X0_wordAt) rfl (Nat.le_of_ble_eq_true rfl) ?_
  show WC X d t_X0_wordAt 0 (some (.object "ProtoMachine$Word")) _ 0 [(0, .ref (cA S 1 0)), (1, .int (nI a))] [] _
  refine C_iload_n rfl rfl ?_
  refine C_ifF rfl (by first | assumption | exact icF (by decide) | exact ic_F (by omega) (by omega) (by simp only [icN, not_true_eq_false, not_false_eq_true] <;> omega) | exact ic_F0 (by omega) (by simp only [icN, not_true_eq_false, not_false_eq_true] <;> omega)) ?_
  refine C_iload_n rfl rfl ?_
  first | refine C_aload_n rfl rfl ?_ | refine C_aload_nN rfl rfl ?_
  refine C_getI (t0 := 1) rfl rfl (by decide) rfl rfl (Or.inl rfl) rfl (by assumption) ?_
  try refine C_topi (y := nI _) (by assumption) ?_
  refine C_icF rfl (by first | assumption | exact icF (by decide) | exact ic_F (by omega) (by omega) (by simp only [icN, not_true_eq_false, not_false_eq_true] <;> omega) | exact ic_F0 (by omega) (by simp only [icN, not_true_eq_false, not_false_eq_true] <;> omega)) ?_
  first | refine C_aload_n rfl rfl ?_ | refine C_aload_nN rfl rfl ?_
  first | refine C_getR (t0 := 1) rfl rfl (by decide) rfl rfl (Or.inr ⟨_, rfl⟩) rfl (by assumption) (by assumption) ?_ | refine C_getN (t0 := 1) rfl rfl (by decide) rfl rfl (Or.inr ⟨_, rfl⟩) rfl (by assumption) (by assumption) ?_
  refine C_iload_n rfl rfl ?_
  first | refine C_aaldR hnp rfl rfl (by decide) rfl (by assumption) rfl (by first | assumption | exact (show _ < 4 from by omega) | exact (show _ < 2000 from by omega)) (by assumption) ?_ | refine C_aaldN hnp rfl rfl (by decide) rfl (by assumption) rfl (by first | assumption | exact (show _ < 4 from by omega) | exact (show _ < 2000 from by omega)) (by assumption) ?_
  refine C_ifnonnullT (pc' := 26) rfl rfl ?_
  first | refine C_aload_n rfl rfl ?_ | refine C_aload_nN rfl rfl ?_
  first | refine C_getR (t0 := 1) rfl rfl (by decide) rfl rfl (Or.inr ⟨_, rfl⟩) rfl (by assumption) (by assumption) ?_ | refine C_getN (t0 := 1) rfl rfl (by decide) rfl rfl (Or.inr ⟨_, rfl⟩) rfl (by assumption) (by assumption) ?_
  refine C_iload_n rfl rfl ?_
  first | refine C_aaldR hnp rfl rfl (by decide) rfl (by assumption) rfl (by first | assumption | exact (show _ < 4 from by omega) | exact (show _ < 2000 from by omega)) (by assumption) ?_ | refine C_aaldN hnp rfl rfl (by decide) rfl (by assumption) rfl (by first | assumption | exact (show _ < 4 from by omega) | exact (show _ < 2000 from by omega)) (by assumption) ?_
  first | exact C_aret rfl rfl ⟨rfl, rfl⟩ | exact C_aretN rfl rfl ⟨rfl, rfl⟩
theorem c_wordAtB {a w : Nat} (hk : gSk S) (hw : cI S 1 0 0 = nI w) (hw2 : w ≤ 2000) (ha : w ≤ a) (ha2 : a ≤ 2001) : CalC X (d + 1) j_X0_wordAt [.ref (cA S 1 0), .int (nI a)] S (fun v S' => v = some (.ref (cA S 5 2000)) ∧ S' = S) := by
  obtain ⟨e0, e1, e2, e3, e4, e9, e10, e11, e12, e13, e14, e15, e5, e7, p00, p01, p02, p03, p12, p13, p14, p23, p24, p25, p26, p310, p311, p41, -⟩ := id hk
  refine CalC_of (md := md_X0_wordAt) rfl (Nat.le_of_ble_eq_true rfl) ?_
  show WC X d t_X0_wordAt 0 (some (.object "ProtoMachine$Word")) _ 0 [(0, .ref (cA S 1 0)), (1, .int (nI a))] [] _
  refine C_iload_n rfl rfl ?_
  refine C_ifF rfl (by first | assumption | exact icF (by decide) | exact ic_F (by omega) (by omega) (by simp only [icN, not_true_eq_false, not_false_eq_true] <;> omega) | exact ic_F0 (by omega) (by simp only [icN, not_true_eq_false, not_false_eq_true] <;> omega)) ?_
  refine C_iload_n rfl rfl ?_
  first | refine C_aload_n rfl rfl ?_ | refine C_aload_nN rfl rfl ?_
  refine C_getI (t0 := 1) rfl rfl (by decide) rfl rfl (Or.inl rfl) rfl (by assumption) ?_
  try refine C_topi (y := nI _) (by assumption) ?_
  refine C_icT (pc' := 21) rfl rfl (by first | assumption | exact icT (by decide) | exact ic_T (by omega) (by omega) (by simp only [icN, not_true_eq_false, not_false_eq_true] <;> omega) | exact ic_T0 (by omega) (by simp only [icN, not_true_eq_false, not_false_eq_true] <;> omega)) ?_
  first | refine C_aload_n rfl rfl ?_ | refine C_aload_nN rfl rfl ?_
  first | refine C_getR (t0 := 1) rfl rfl (by decide) rfl rfl (Or.inl ⟨_, rfl⟩) rfl (by assumption) (by assumption) ?_ | refine C_getN (t0 := 1) rfl rfl (by decide) rfl rfl (Or.inl ⟨_, rfl⟩) rfl (by assumption) (by assumption) ?_
  first | exact C_aret rfl rfl ⟨rfl, rfl⟩ | exact C_aretN rfl rfl ⟨rfl, rfl⟩
theorem lgc_eq {x y : Int64} : lg_cmp x y = 0 ↔ x = y := by
  unfold lg_cmp
  by_cases h : x > y
  · rw [if_pos h]
    constructor
    · intro q; exact absurd q (by decide)
    · intro q; subst q; exact absurd h (Int64.lt_irrefl)
  · rw [if_neg h]
    by_cases h2 : x = y
    · rw [if_pos h2]; exact ⟨fun _ => h2, fun _ => rfl⟩
    · rw [if_neg h2]
      constructor
      · intro q; exact absurd q (by decide)
      · intro q; exact absurd q h2
theorem c_isFalse1 {v : Int64} (h : v = 0 ∨ v = pkv (nI 1) (nI 0)) : CalC X (d + 2) j_X8_isFalse [.long v] S (fun w S' => w = some (.int (nI 1)) ∧ S' = S) := by
  by_cases h0 : v = 0
  · have h1 : lg_cmp v 0 = 0 := lgc_eq.mpr h0
    refine CalC_of (md := md_X8_isFalse) (d := d + 1) rfl (Nat.le_of_ble_eq_true rfl) ?_
    show WC X (d + 1) t_X8_isFalse 8 (some .boolean) _ 0 [(0, .long v)] [] _
    refine C_lload_n rfl rfl ?_
    refine C_lconst (y := 0) rfl (by decide) ?_
    refine C_lcmp rfl ?_
    refine C_ifT (pc' := 16) rfl rfl (h1) ?_
    refine C_iconst (y := nI 1) rfl (by decide) ?_
    refine C_goto (pc' := 21) rfl rfl ?_
    exact C_iret rfl rfl (by first | trivial | exact Or.inl rfl | exact Or.inr rfl | assumption | exact b01) ⟨rfl, rfl⟩
  · have h1 : ¬ lg_cmp v 0 = 0 := fun q => h0 (lgc_eq.mp q)
    have h2 : lg_cmp v (pkv (nI 1) (nI 0)) = 0 := lgc_eq.mpr (h.resolve_left h0)
    refine CalC_of (md := md_X8_isFalse) (d := d + 1) rfl (Nat.le_of_ble_eq_true rfl) ?_
    show WC X (d + 1) t_X8_isFalse 8 (some .boolean) _ 0 [(0, .long v)] [] _
    refine C_lload_n rfl rfl ?_
    refine C_lconst (y := 0) rfl (by decide) ?_
    refine C_lcmp rfl ?_
    refine C_ifF rfl (h1) ?_
    refine C_lload_n rfl rfl ?_
    refine C_iconst (y := nI 1) rfl (by decide) ?_
    refine C_iconst (y := nI 0) rfl (by decide) ?_
    refine C_stat rfl rfl (by decide) rfl (Nat.le_of_ble_eq_true rfl) rfl rfl (Nat.le_of_ble_eq_true rfl) (c_pack) ?_
    rintro _ _ ⟨rfl, rfl⟩
    refine C_lcmp rfl ?_
    refine C_ifF rfl (fun q => q h2) ?_
    refine C_iconst (y := nI 1) rfl (by decide) ?_
    refine C_goto (pc' := 21) rfl rfl ?_
    exact C_iret rfl rfl (by first | trivial | exact Or.inl rfl | exact Or.inr rfl | assumption | exact b01) ⟨rfl, rfl⟩
theorem c_isFalse0 {v : Int64} (h : ¬ (v = 0 ∨ v = pkv (nI 1) (nI 0))) : CalC X (d + 2) j_X8_isFalse [.long v] S (fun w S' => w = some (.int (nI 0)) ∧ S' = S) := by
  have h1 : ¬ lg_cmp v 0 = 0 := fun q => h (Or.inl (lgc_eq.mp q))
  have h2 : ¬ lg_cmp v (pkv (nI 1) (nI 0)) = 0 := fun q => h (Or.inr (lgc_eq.mp q))
  refine CalC_of (md := md_X8_isFalse) (d := d + 1) rfl (Nat.le_of_ble_eq_true rfl) ?_
  show WC X (d + 1) t_X8_isFalse 8 (some .boolean) _ 0 [(0, .long v)] [] _
  refine C_lload_n rfl rfl ?_
  refine C_lconst (y := 0) rfl (by decide) ?_
  refine C_lcmp rfl ?_
  refine C_ifF rfl (h1) ?_
  refine C_lload_n rfl rfl ?_
  refine C_iconst (y := nI 1) rfl (by decide) ?_
  refine C_iconst (y := nI 0) rfl (by decide) ?_
  refine C_stat rfl rfl (by decide) rfl (Nat.le_of_ble_eq_true rfl) rfl rfl (Nat.le_of_ble_eq_true rfl) (c_pack) ?_
  rintro _ _ ⟨rfl, rfl⟩
  refine C_lcmp rfl ?_
  refine C_ifT (pc' := 20) rfl rfl (h2) ?_
  refine C_iconst (y := nI 0) rfl (by decide) ?_
  exact C_iret rfl rfl (by first | trivial | exact Or.inl rfl | exact Or.inr rfl | assumption | exact b01) ⟨rfl, rfl⟩
def amg (K k : Nat) : Bool := (K / 2 ^ k) % 2 == 1
theorem c_isAmong {K k : Nat} {x : Int32} (hK : K = 2 ∨ K = 4 ∨ K = 5 ∨ K = 15) (hk : k < 4) : CalC X (d + 2) j_X8_isAmong [.long (pkv (nI k) x), .int (nI K)] S (fun w S' => w = some (.int (b2i (amg K k))) ∧ S' = S) := by
  have hkd := pkv_knd hk x
  have hk4 : k = 0 ∨ k = 1 ∨ k = 2 ∨ k = 3 := by omega
  cases hb : amg K k with
  | true =>
    have hv : ¬ (nI K >>> (nI k &&& 31)) &&& nI 1 = 0 := by
      rcases hK with rfl | rfl | rfl | rfl <;> rcases hk4 with rfl | rfl | rfl | rfl <;> first | decide | (exact absurd hb (by decide))
    refine CalC_of (md := md_X8_isAmong) (d := d + 1) rfl (Nat.le_of_ble_eq_true rfl) ?_
    show WC X (d + 1) t_X8_isAmong 8 (some .boolean) _ 0 [(0, .long (pkv (nI k) x)), (2, .int (nI K))] [] _
    refine C_iload_n rfl rfl ?_
    refine C_lload_n rfl rfl ?_
    refine C_stat rfl rfl (by decide) rfl (Nat.le_of_ble_eq_true rfl) rfl rfl (Nat.le_of_ble_eq_true rfl) (c_kindOf) ?_
    rintro _ _ ⟨rfl, rfl⟩
    try refine C_topi (y := nI _) (by assumption) ?_
    refine C_ishr rfl ?_
    refine C_iconst (y := nI 1) rfl (by decide) ?_
    refine C_iand rfl ?_
    refine C_ifF rfl (hv) ?_
    refine C_iconst (y := nI 1) rfl (by decide) ?_
    refine C_goto (pc' := 16) rfl rfl ?_
    exact C_iret rfl rfl (by first | trivial | exact Or.inl rfl | exact Or.inr rfl | assumption | exact b01) ⟨rfl, rfl⟩
  | false =>
    have hv : (nI K >>> (nI k &&& 31)) &&& nI 1 = 0 := by
      rcases hK with rfl | rfl | rfl | rfl <;> rcases hk4 with rfl | rfl | rfl | rfl <;> first | decide | (exact absurd hb (by decide))
    refine CalC_of (md := md_X8_isAmong) (d := d + 1) rfl (Nat.le_of_ble_eq_true rfl) ?_
    show WC X (d + 1) t_X8_isAmong 8 (some .boolean) _ 0 [(0, .long (pkv (nI k) x)), (2, .int (nI K))] [] _
    refine C_iload_n rfl rfl ?_
    refine C_lload_n rfl rfl ?_
    refine C_stat rfl rfl (by decide) rfl (Nat.le_of_ble_eq_true rfl) rfl rfl (Nat.le_of_ble_eq_true rfl) (c_kindOf) ?_
    rintro _ _ ⟨rfl, rfl⟩
    try refine C_topi (y := nI _) (by assumption) ?_
    refine C_ishr rfl ?_
    refine C_iconst (y := nI 1) rfl (by decide) ?_
    refine C_iand rfl ?_
    refine C_ifT (pc' := 15) rfl rfl (hv) ?_
    refine C_iconst (y := nI 0) rfl (by decide) ?_
    exact C_iret rfl rfl (by first | trivial | exact Or.inl rfl | exact Or.inr rfl | assumption | exact b01) ⟨rfl, rfl⟩
def kal : List Nat := [15, 15, 15, 15, 15, 15, 2, 2, 2, 2, 2, 2, 15, 15, 15, 15, 15, 15, 15, 5, 4, 15, 15, 4, 15, 4, 5, 5, 15, 15, 15, 15, 15, 15, 15]
def kbl : List Nat := [15, 15, 15, 15, 15, 15, 2, 2, 2, 2, 2, 2, 15, 15, 15, 15, 15, 15, 15, 15, 15, 15, 4, 15, 15, 15, 4, 15, 15, 15, 15, 15, 15, 15, 15]
theorem c_wt0 {a b : Nat} (he : cE S 5 a = true) (ho : cI S 5 0 a = nI 0) (hb : cI S 5 2 a = nI b) : CalC X (d + 1) j_X7_wanted [.ref (cA S 5 a)] S (fun v S' => v = some (.int (nI (wnt 0 b))) ∧ S' = S) := by
  refine CalC_of (md := md_X7_wanted) rfl (Nat.le_of_ble_eq_true rfl) ?_
  show WC X d t_X7_wanted 7 (some .int) _ 0 [(0, .ref (cA S 5 a))] [] _
  first | refine C_aload_n rfl rfl ?_ | refine C_aload_nN rfl rfl ?_
  refine C_getI (t0 := 5) rfl rfl (by decide) rfl rfl (Or.inl rfl) rfl (by assumption) ?_
  try refine C_topi (y := nI _) (by assumption) ?_
  refine C_table (pc' := 151) rfl (by decide) ?_
  refine C_iconst (y := nI 0) rfl (by decide) ?_
  exact C_iret rfl rfl (by first | trivial | exact Or.inl rfl | exact Or.inr rfl | assumption | exact b01) ⟨rfl, rfl⟩
theorem c_ka0 {a : Nat} (he : cE S 5 a = true) (ho : cI S 5 0 a = nI 0) : CalC X (d + 1) j_X7_kindsAbove [.ref (cA S 5 a)] S (fun v S' => v = some (.int (nI (kal.getD 0 0))) ∧ S' = S) := by
  refine CalC_of (md := md_X7_kindsAbove) rfl (Nat.le_of_ble_eq_true rfl) ?_
  show WC X d t_X7_kindsAbove 7 (some .int) _ 0 [(0, .ref (cA S 5 a))] [] _
  first | refine C_aload_n rfl rfl ?_ | refine C_aload_nN rfl rfl ?_
  refine C_getI (t0 := 5) rfl rfl (by decide) rfl rfl (Or.inl rfl) rfl (by assumption) ?_
  try refine C_topi (y := nI _) (by assumption) ?_
  refine C_table (pc' := 114) rfl (by decide) ?_
  refine C_bipush (y := nI 15) rfl (by decide) ?_
  exact C_iret rfl rfl (by first | trivial | exact Or.inl rfl | exact Or.inr rfl | assumption | exact b01) ⟨rfl, rfl⟩
theorem c_kb0 {a : Nat} (he : cE S 5 a = true) (ho : cI S 5 0 a = nI 0) : CalC X (d + 1) j_X7_kindsBelow [.ref (cA S 5 a)] S (fun v S' => v = some (.int (nI (kbl.getD 0 0))) ∧ S' = S) := by
  refine CalC_of (md := md_X7_kindsBelow) rfl (Nat.le_of_ble_eq_true rfl) ?_
  show WC X d t_X7_kindsBelow 7 (some .int) _ 0 [(0, .ref (cA S 5 a))] [] _
  first | refine C_aload_n rfl rfl ?_ | refine C_aload_nN rfl rfl ?_
  refine C_getI (t0 := 5) rfl rfl (by decide) rfl rfl (Or.inl rfl) rfl (by assumption) ?_
  try refine C_topi (y := nI _) (by assumption) ?_
  refine C_table (pc' := 108) rfl (by decide) ?_
  refine C_bipush (y := nI 15) rfl (by decide) ?_
  exact C_iret rfl rfl (by first | trivial | exact Or.inl rfl | exact Or.inr rfl | assumption | exact b01) ⟨rfl, rfl⟩
theorem c_wt1 {a b : Nat} (he : cE S 5 a = true) (ho : cI S 5 0 a = nI 1) (hb : cI S 5 2 a = nI b) : CalC X (d + 1) j_X7_wanted [.ref (cA S 5 a)] S (fun v S' => v = some (.int (nI (wnt 1 b))) ∧ S' = S) := by
  refine CalC_of (md := md_X7_wanted) rfl (Nat.le_of_ble_eq_true rfl) ?_
  show WC X d t_X7_wanted 7 (some .int) _ 0 [(0, .ref (cA S 5 a))] [] _
  first | refine C_aload_n rfl rfl ?_ | refine C_aload_nN rfl rfl ?_
  refine C_getI (t0 := 5) rfl rfl (by decide) rfl rfl (Or.inl rfl) rfl (by assumption) ?_
  try refine C_topi (y := nI _) (by assumption) ?_
  refine C_table (pc' := 151) rfl (by decide) ?_
  refine C_iconst (y := nI 0) rfl (by decide) ?_
  exact C_iret rfl rfl (by first | trivial | exact Or.inl rfl | exact Or.inr rfl | assumption | exact b01) ⟨rfl, rfl⟩
theorem c_ka1 {a : Nat} (he : cE S 5 a = true) (ho : cI S 5 0 a = nI 1) : CalC X (d + 1) j_X7_kindsAbove [.ref (cA S 5 a)] S (fun v S' => v = some (.int (nI (kal.getD 1 0))) ∧ S' = S) := by
  refine CalC_of (md := md_X7_kindsAbove) rfl (Nat.le_of_ble_eq_true rfl) ?_
  show WC X d t_X7_kindsAbove 7 (some .int) _ 0 [(0, .ref (cA S 5 a))] [] _
  first | refine C_aload_n rfl rfl ?_ | refine C_aload_nN rfl rfl ?_
  refine C_getI (t0 := 5) rfl rfl (by decide) rfl rfl (Or.inl rfl) rfl (by assumption) ?_
  try refine C_topi (y := nI _) (by assumption) ?_
  refine C_table (pc' := 114) rfl (by decide) ?_
  refine C_bipush (y := nI 15) rfl (by decide) ?_
  exact C_iret rfl rfl (by first | trivial | exact Or.inl rfl | exact Or.inr rfl | assumption | exact b01) ⟨rfl, rfl⟩
theorem c_kb1 {a : Nat} (he : cE S 5 a = true) (ho : cI S 5 0 a = nI 1) : CalC X (d + 1) j_X7_kindsBelow [.ref (cA S 5 a)] S (fun v S' => v = some (.int (nI (kbl.getD 1 0))) ∧ S' = S) := by
  refine CalC_of (md := md_X7_kindsBelow) rfl (Nat.le_of_ble_eq_true rfl) ?_
  show WC X d t_X7_kindsBelow 7 (some .int) _ 0 [(0, .ref (cA S 5 a))] [] _
  first | refine C_aload_n rfl rfl ?_ | refine C_aload_nN rfl rfl ?_
  refine C_getI (t0 := 5) rfl rfl (by decide) rfl rfl (Or.inl rfl) rfl (by assumption) ?_
  try refine C_topi (y := nI _) (by assumption) ?_
  refine C_table (pc' := 108) rfl (by decide) ?_
  refine C_bipush (y := nI 15) rfl (by decide) ?_
  exact C_iret rfl rfl (by first | trivial | exact Or.inl rfl | exact Or.inr rfl | assumption | exact b01) ⟨rfl, rfl⟩
theorem c_wt2 {a b : Nat} (he : cE S 5 a = true) (ho : cI S 5 0 a = nI 2) (hb : cI S 5 2 a = nI b) : CalC X (d + 1) j_X7_wanted [.ref (cA S 5 a)] S (fun v S' => v = some (.int (nI (wnt 2 b))) ∧ S' = S) := by
  refine CalC_of (md := md_X7_wanted) rfl (Nat.le_of_ble_eq_true rfl) ?_
  show WC X d t_X7_wanted 7 (some .int) _ 0 [(0, .ref (cA S 5 a))] [] _
  first | refine C_aload_n rfl rfl ?_ | refine C_aload_nN rfl rfl ?_
  refine C_getI (t0 := 5) rfl rfl (by decide) rfl rfl (Or.inl rfl) rfl (by assumption) ?_
  try refine C_topi (y := nI _) (by assumption) ?_
  refine C_table (pc' := 151) rfl (by decide) ?_
  refine C_iconst (y := nI 0) rfl (by decide) ?_
  exact C_iret rfl rfl (by first | trivial | exact Or.inl rfl | exact Or.inr rfl | assumption | exact b01) ⟨rfl, rfl⟩
theorem c_ka2 {a : Nat} (he : cE S 5 a = true) (ho : cI S 5 0 a = nI 2) : CalC X (d + 1) j_X7_kindsAbove [.ref (cA S 5 a)] S (fun v S' => v = some (.int (nI (kal.getD 2 0))) ∧ S' = S) := by
  refine CalC_of (md := md_X7_kindsAbove) rfl (Nat.le_of_ble_eq_true rfl) ?_
  show WC X d t_X7_kindsAbove 7 (some .int) _ 0 [(0, .ref (cA S 5 a))] [] _
  first | refine C_aload_n rfl rfl ?_ | refine C_aload_nN rfl rfl ?_
  refine C_getI (t0 := 5) rfl rfl (by decide) rfl rfl (Or.inl rfl) rfl (by assumption) ?_
  try refine C_topi (y := nI _) (by assumption) ?_
  refine C_table (pc' := 114) rfl (by decide) ?_
  refine C_bipush (y := nI 15) rfl (by decide) ?_
  exact C_iret rfl rfl (by first | trivial | exact Or.inl rfl | exact Or.inr rfl | assumption | exact b01) ⟨rfl, rfl⟩
theorem c_kb2 {a : Nat} (he : cE S 5 a = true) (ho : cI S 5 0 a = nI 2) : CalC X (d + 1) j_X7_kindsBelow [.ref (cA S 5 a)] S (fun v S' => v = some (.int (nI (kbl.getD 2 0))) ∧ S' = S) := by
  refine CalC_of (md := md_X7_kindsBelow) rfl (Nat.le_of_ble_eq_true rfl) ?_
  show WC X d t_X7_kindsBelow 7 (some .int) _ 0 [(0, .ref (cA S 5 a))] [] _
  first | refine C_aload_n rfl rfl ?_ | refine C_aload_nN rfl rfl ?_
  refine C_getI (t0 := 5) rfl rfl (by decide) rfl rfl (Or.inl rfl) rfl (by assumption) ?_
  try refine C_topi (y := nI _) (by assumption) ?_
  refine C_table (pc' := 108) rfl (by decide) ?_
  refine C_bipush (y := nI 15) rfl (by decide) ?_
  exact C_iret rfl rfl (by first | trivial | exact Or.inl rfl | exact Or.inr rfl | assumption | exact b01) ⟨rfl, rfl⟩
theorem c_wt3 {a b : Nat} (he : cE S 5 a = true) (ho : cI S 5 0 a = nI 3) (hb : cI S 5 2 a = nI b) : CalC X (d + 1) j_X7_wanted [.ref (cA S 5 a)] S (fun v S' => v = some (.int (nI (wnt 3 b))) ∧ S' = S) := by
  refine CalC_of (md := md_X7_wanted) rfl (Nat.le_of_ble_eq_true rfl) ?_
  show WC X d t_X7_wanted 7 (some .int) _ 0 [(0, .ref (cA S 5 a))] [] _
  first | refine C_aload_n rfl rfl ?_ | refine C_aload_nN rfl rfl ?_
  refine C_getI (t0 := 5) rfl rfl (by decide) rfl rfl (Or.inl rfl) rfl (by assumption) ?_
  try refine C_topi (y := nI _) (by assumption) ?_
  refine C_table (pc' := 149) rfl (by decide) ?_
  refine C_iconst (y := nI 1) rfl (by decide) ?_
  exact C_iret rfl rfl (by first | trivial | exact Or.inl rfl | exact Or.inr rfl | assumption | exact b01) ⟨rfl, rfl⟩
theorem c_ka3 {a : Nat} (he : cE S 5 a = true) (ho : cI S 5 0 a = nI 3) : CalC X (d + 1) j_X7_kindsAbove [.ref (cA S 5 a)] S (fun v S' => v = some (.int (nI (kal.getD 3 0))) ∧ S' = S) := by
  refine CalC_of (md := md_X7_kindsAbove) rfl (Nat.le_of_ble_eq_true rfl) ?_
  show WC X d t_X7_kindsAbove 7 (some .int) _ 0 [(0, .ref (cA S 5 a))] [] _
  first | refine C_aload_n rfl rfl ?_ | refine C_aload_nN rfl rfl ?_
  refine C_getI (t0 := 5) rfl rfl (by decide) rfl rfl (Or.inl rfl) rfl (by assumption) ?_
  try refine C_topi (y := nI _) (by assumption) ?_
  refine C_table (pc' := 114) rfl (by decide) ?_
  refine C_bipush (y := nI 15) rfl (by decide) ?_
  exact C_iret rfl rfl (by first | trivial | exact Or.inl rfl | exact Or.inr rfl | assumption | exact b01) ⟨rfl, rfl⟩
theorem c_kb3 {a : Nat} (he : cE S 5 a = true) (ho : cI S 5 0 a = nI 3) : CalC X (d + 1) j_X7_kindsBelow [.ref (cA S 5 a)] S (fun v S' => v = some (.int (nI (kbl.getD 3 0))) ∧ S' = S) := by
  refine CalC_of (md := md_X7_kindsBelow) rfl (Nat.le_of_ble_eq_true rfl) ?_
  show WC X d t_X7_kindsBelow 7 (some .int) _ 0 [(0, .ref (cA S 5 a))] [] _
  first | refine C_aload_n rfl rfl ?_ | refine C_aload_nN rfl rfl ?_
  refine C_getI (t0 := 5) rfl rfl (by decide) rfl rfl (Or.inl rfl) rfl (by assumption) ?_
  try refine C_topi (y := nI _) (by assumption) ?_
  refine C_table (pc' := 108) rfl (by decide) ?_
  refine C_bipush (y := nI 15) rfl (by decide) ?_
  exact C_iret rfl rfl (by first | trivial | exact Or.inl rfl | exact Or.inr rfl | assumption | exact b01) ⟨rfl, rfl⟩
theorem c_wt4 {a b : Nat} (he : cE S 5 a = true) (ho : cI S 5 0 a = nI 4) (hb : cI S 5 2 a = nI b) : CalC X (d + 1) j_X7_wanted [.ref (cA S 5 a)] S (fun v S' => v = some (.int (nI (wnt 4 b))) ∧ S' = S) := by
  refine CalC_of (md := md_X7_wanted) rfl (Nat.le_of_ble_eq_true rfl) ?_
  show WC X d t_X7_wanted 7 (some .int) _ 0 [(0, .ref (cA S 5 a))] [] _
  first | refine C_aload_n rfl rfl ?_ | refine C_aload_nN rfl rfl ?_
  refine C_getI (t0 := 5) rfl rfl (by decide) rfl rfl (Or.inl rfl) rfl (by assumption) ?_
  try refine C_topi (y := nI _) (by assumption) ?_
  refine C_table (pc' := 149) rfl (by decide) ?_
  refine C_iconst (y := nI 1) rfl (by decide) ?_
  exact C_iret rfl rfl (by first | trivial | exact Or.inl rfl | exact Or.inr rfl | assumption | exact b01) ⟨rfl, rfl⟩
theorem c_ka4 {a : Nat} (he : cE S 5 a = true) (ho : cI S 5 0 a = nI 4) : CalC X (d + 1) j_X7_kindsAbove [.ref (cA S 5 a)] S (fun v S' => v = some (.int (nI (kal.getD 4 0))) ∧ S' = S) := by
  refine CalC_of (md := md_X7_kindsAbove) rfl (Nat.le_of_ble_eq_true rfl) ?_
  show WC X d t_X7_kindsAbove 7 (some .int) _ 0 [(0, .ref (cA S 5 a))] [] _
  first | refine C_aload_n rfl rfl ?_ | refine C_aload_nN rfl rfl ?_
  refine C_getI (t0 := 5) rfl rfl (by decide) rfl rfl (Or.inl rfl) rfl (by assumption) ?_
  try refine C_topi (y := nI _) (by assumption) ?_
  refine C_table (pc' := 114) rfl (by decide) ?_
  refine C_bipush (y := nI 15) rfl (by decide) ?_
  exact C_iret rfl rfl (by first | trivial | exact Or.inl rfl | exact Or.inr rfl | assumption | exact b01) ⟨rfl, rfl⟩
theorem c_kb4 {a : Nat} (he : cE S 5 a = true) (ho : cI S 5 0 a = nI 4) : CalC X (d + 1) j_X7_kindsBelow [.ref (cA S 5 a)] S (fun v S' => v = some (.int (nI (kbl.getD 4 0))) ∧ S' = S) := by
  refine CalC_of (md := md_X7_kindsBelow) rfl (Nat.le_of_ble_eq_true rfl) ?_
  show WC X d t_X7_kindsBelow 7 (some .int) _ 0 [(0, .ref (cA S 5 a))] [] _
  first | refine C_aload_n rfl rfl ?_ | refine C_aload_nN rfl rfl ?_
  refine C_getI (t0 := 5) rfl rfl (by decide) rfl rfl (Or.inl rfl) rfl (by assumption) ?_
  try refine C_topi (y := nI _) (by assumption) ?_
  refine C_table (pc' := 108) rfl (by decide) ?_
  refine C_bipush (y := nI 15) rfl (by decide) ?_
  exact C_iret rfl rfl (by first | trivial | exact Or.inl rfl | exact Or.inr rfl | assumption | exact b01) ⟨rfl, rfl⟩
theorem c_wt5 {a b : Nat} (he : cE S 5 a = true) (ho : cI S 5 0 a = nI 5) (hb : cI S 5 2 a = nI b) : CalC X (d + 1) j_X7_wanted [.ref (cA S 5 a)] S (fun v S' => v = some (.int (nI (wnt 5 b))) ∧ S' = S) := by
  refine CalC_of (md := md_X7_wanted) rfl (Nat.le_of_ble_eq_true rfl) ?_
  show WC X d t_X7_wanted 7 (some .int) _ 0 [(0, .ref (cA S 5 a))] [] _
  first | refine C_aload_n rfl rfl ?_ | refine C_aload_nN rfl rfl ?_
  refine C_getI (t0 := 5) rfl rfl (by decide) rfl rfl (Or.inl rfl) rfl (by assumption) ?_
  try refine C_topi (y := nI _) (by assumption) ?_
  refine C_table (pc' := 147) rfl (by decide) ?_
  refine C_iconst (y := nI 2) rfl (by decide) ?_
  exact C_iret rfl rfl (by first | trivial | exact Or.inl rfl | exact Or.inr rfl | assumption | exact b01) ⟨rfl, rfl⟩
theorem c_ka5 {a : Nat} (he : cE S 5 a = true) (ho : cI S 5 0 a = nI 5) : CalC X (d + 1) j_X7_kindsAbove [.ref (cA S 5 a)] S (fun v S' => v = some (.int (nI (kal.getD 5 0))) ∧ S' = S) := by
  refine CalC_of (md := md_X7_kindsAbove) rfl (Nat.le_of_ble_eq_true rfl) ?_
  show WC X d t_X7_kindsAbove 7 (some .int) _ 0 [(0, .ref (cA S 5 a))] [] _
  first | refine C_aload_n rfl rfl ?_ | refine C_aload_nN rfl rfl ?_
  refine C_getI (t0 := 5) rfl rfl (by decide) rfl rfl (Or.inl rfl) rfl (by assumption) ?_
  try refine C_topi (y := nI _) (by assumption) ?_
  refine C_table (pc' := 114) rfl (by decide) ?_
  refine C_bipush (y := nI 15) rfl (by decide) ?_
  exact C_iret rfl rfl (by first | trivial | exact Or.inl rfl | exact Or.inr rfl | assumption | exact b01) ⟨rfl, rfl⟩
theorem c_kb5 {a : Nat} (he : cE S 5 a = true) (ho : cI S 5 0 a = nI 5) : CalC X (d + 1) j_X7_kindsBelow [.ref (cA S 5 a)] S (fun v S' => v = some (.int (nI (kbl.getD 5 0))) ∧ S' = S) := by
  refine CalC_of (md := md_X7_kindsBelow) rfl (Nat.le_of_ble_eq_true rfl) ?_
  show WC X d t_X7_kindsBelow 7 (some .int) _ 0 [(0, .ref (cA S 5 a))] [] _
  first | refine C_aload_n rfl rfl ?_ | refine C_aload_nN rfl rfl ?_
  refine C_getI (t0 := 5) rfl rfl (by decide) rfl rfl (Or.inl rfl) rfl (by assumption) ?_
  try refine C_topi (y := nI _) (by assumption) ?_
  refine C_table (pc' := 108) rfl (by decide) ?_
  refine C_bipush (y := nI 15) rfl (by decide) ?_
  exact C_iret rfl rfl (by first | trivial | exact Or.inl rfl | exact Or.inr rfl | assumption | exact b01) ⟨rfl, rfl⟩
theorem c_wt6 {a b : Nat} (he : cE S 5 a = true) (ho : cI S 5 0 a = nI 6) (hb : cI S 5 2 a = nI b) : CalC X (d + 1) j_X7_wanted [.ref (cA S 5 a)] S (fun v S' => v = some (.int (nI (wnt 6 b))) ∧ S' = S) := by
  refine CalC_of (md := md_X7_wanted) rfl (Nat.le_of_ble_eq_true rfl) ?_
  show WC X d t_X7_wanted 7 (some .int) _ 0 [(0, .ref (cA S 5 a))] [] _
  first | refine C_aload_n rfl rfl ?_ | refine C_aload_nN rfl rfl ?_
  refine C_getI (t0 := 5) rfl rfl (by decide) rfl rfl (Or.inl rfl) rfl (by assumption) ?_
  try refine C_topi (y := nI _) (by assumption) ?_
  refine C_table (pc' := 147) rfl (by decide) ?_
  refine C_iconst (y := nI 2) rfl (by decide) ?_
  exact C_iret rfl rfl (by first | trivial | exact Or.inl rfl | exact Or.inr rfl | assumption | exact b01) ⟨rfl, rfl⟩
theorem c_ka6 {a : Nat} (he : cE S 5 a = true) (ho : cI S 5 0 a = nI 6) : CalC X (d + 1) j_X7_kindsAbove [.ref (cA S 5 a)] S (fun v S' => v = some (.int (nI (kal.getD 6 0))) ∧ S' = S) := by
  refine CalC_of (md := md_X7_kindsAbove) rfl (Nat.le_of_ble_eq_true rfl) ?_
  show WC X d t_X7_kindsAbove 7 (some .int) _ 0 [(0, .ref (cA S 5 a))] [] _
  first | refine C_aload_n rfl rfl ?_ | refine C_aload_nN rfl rfl ?_
  refine C_getI (t0 := 5) rfl rfl (by decide) rfl rfl (Or.inl rfl) rfl (by assumption) ?_
  try refine C_topi (y := nI _) (by assumption) ?_
  refine C_table (pc' := 108) rfl (by decide) ?_
  refine C_iconst (y := nI 2) rfl (by decide) ?_
  exact C_iret rfl rfl (by first | trivial | exact Or.inl rfl | exact Or.inr rfl | assumption | exact b01) ⟨rfl, rfl⟩
theorem c_kb6 {a : Nat} (he : cE S 5 a = true) (ho : cI S 5 0 a = nI 6) : CalC X (d + 1) j_X7_kindsBelow [.ref (cA S 5 a)] S (fun v S' => v = some (.int (nI (kbl.getD 6 0))) ∧ S' = S) := by
  refine CalC_of (md := md_X7_kindsBelow) rfl (Nat.le_of_ble_eq_true rfl) ?_
  show WC X d t_X7_kindsBelow 7 (some .int) _ 0 [(0, .ref (cA S 5 a))] [] _
  first | refine C_aload_n rfl rfl ?_ | refine C_aload_nN rfl rfl ?_
  refine C_getI (t0 := 5) rfl rfl (by decide) rfl rfl (Or.inl rfl) rfl (by assumption) ?_
  try refine C_topi (y := nI _) (by assumption) ?_
  refine C_table (pc' := 104) rfl (by decide) ?_
  refine C_iconst (y := nI 2) rfl (by decide) ?_
  exact C_iret rfl rfl (by first | trivial | exact Or.inl rfl | exact Or.inr rfl | assumption | exact b01) ⟨rfl, rfl⟩
theorem c_wt7 {a b : Nat} (he : cE S 5 a = true) (ho : cI S 5 0 a = nI 7) (hb : cI S 5 2 a = nI b) : CalC X (d + 1) j_X7_wanted [.ref (cA S 5 a)] S (fun v S' => v = some (.int (nI (wnt 7 b))) ∧ S' = S) := by
  refine CalC_of (md := md_X7_wanted) rfl (Nat.le_of_ble_eq_true rfl) ?_
  show WC X d t_X7_wanted 7 (some .int) _ 0 [(0, .ref (cA S 5 a))] [] _
  first | refine C_aload_n rfl rfl ?_ | refine C_aload_nN rfl rfl ?_
  refine C_getI (t0 := 5) rfl rfl (by decide) rfl rfl (Or.inl rfl) rfl (by assumption) ?_
  try refine C_topi (y := nI _) (by assumption) ?_
  refine C_table (pc' := 147) rfl (by decide) ?_
  refine C_iconst (y := nI 2) rfl (by decide) ?_
  exact C_iret rfl rfl (by first | trivial | exact Or.inl rfl | exact Or.inr rfl | assumption | exact b01) ⟨rfl, rfl⟩
theorem c_ka7 {a : Nat} (he : cE S 5 a = true) (ho : cI S 5 0 a = nI 7) : CalC X (d + 1) j_X7_kindsAbove [.ref (cA S 5 a)] S (fun v S' => v = some (.int (nI (kal.getD 7 0))) ∧ S' = S) := by
  refine CalC_of (md := md_X7_kindsAbove) rfl (Nat.le_of_ble_eq_true rfl) ?_
  show WC X d t_X7_kindsAbove 7 (some .int) _ 0 [(0, .ref (cA S 5 a))] [] _
  first | refine C_aload_n rfl rfl ?_ | refine C_aload_nN rfl rfl ?_
  refine C_getI (t0 := 5) rfl rfl (by decide) rfl rfl (Or.inl rfl) rfl (by assumption) ?_
  try refine C_topi (y := nI _) (by assumption) ?_
  refine C_table (pc' := 108) rfl (by decide) ?_
  refine C_iconst (y := nI 2) rfl (by decide) ?_
  exact C_iret rfl rfl (by first | trivial | exact Or.inl rfl | exact Or.inr rfl | assumption | exact b01) ⟨rfl, rfl⟩
theorem c_kb7 {a : Nat} (he : cE S 5 a = true) (ho : cI S 5 0 a = nI 7) : CalC X (d + 1) j_X7_kindsBelow [.ref (cA S 5 a)] S (fun v S' => v = some (.int (nI (kbl.getD 7 0))) ∧ S' = S) := by
  refine CalC_of (md := md_X7_kindsBelow) rfl (Nat.le_of_ble_eq_true rfl) ?_
  show WC X d t_X7_kindsBelow 7 (some .int) _ 0 [(0, .ref (cA S 5 a))] [] _
  first | refine C_aload_n rfl rfl ?_ | refine C_aload_nN rfl rfl ?_
  refine C_getI (t0 := 5) rfl rfl (by decide) rfl rfl (Or.inl rfl) rfl (by assumption) ?_
  try refine C_topi (y := nI _) (by assumption) ?_
  refine C_table (pc' := 104) rfl (by decide) ?_
  refine C_iconst (y := nI 2) rfl (by decide) ?_
  exact C_iret rfl rfl (by first | trivial | exact Or.inl rfl | exact Or.inr rfl | assumption | exact b01) ⟨rfl, rfl⟩
theorem c_wt8 {a b : Nat} (he : cE S 5 a = true) (ho : cI S 5 0 a = nI 8) (hb : cI S 5 2 a = nI b) : CalC X (d + 1) j_X7_wanted [.ref (cA S 5 a)] S (fun v S' => v = some (.int (nI (wnt 8 b))) ∧ S' = S) := by
  refine CalC_of (md := md_X7_wanted) rfl (Nat.le_of_ble_eq_true rfl) ?_
  show WC X d t_X7_wanted 7 (some .int) _ 0 [(0, .ref (cA S 5 a))] [] _
  first | refine C_aload_n rfl rfl ?_ | refine C_aload_nN rfl rfl ?_
  refine C_getI (t0 := 5) rfl rfl (by decide) rfl rfl (Or.inl rfl) rfl (by assumption) ?_
  try refine C_topi (y := nI _) (by assumption) ?_
  refine C_table (pc' := 147) rfl (by decide) ?_
  refine C_iconst (y := nI 2) rfl (by decide) ?_
  exact C_iret rfl rfl (by first | trivial | exact Or.inl rfl | exact Or.inr rfl | assumption | exact b01) ⟨rfl, rfl⟩
theorem c_ka8 {a : Nat} (he : cE S 5 a = true) (ho : cI S 5 0 a = nI 8) : CalC X (d + 1) j_X7_kindsAbove [.ref (cA S 5 a)] S (fun v S' => v = some (.int (nI (kal.getD 8 0))) ∧ S' = S) := by
  refine CalC_of (md := md_X7_kindsAbove) rfl (Nat.le_of_ble_eq_true rfl) ?_
  show WC X d t_X7_kindsAbove 7 (some .int) _ 0 [(0, .ref (cA S 5 a))] [] _
  first | refine C_aload_n rfl rfl ?_ | refine C_aload_nN rfl rfl ?_
  refine C_getI (t0 := 5) rfl rfl (by decide) rfl rfl (Or.inl rfl) rfl (by assumption) ?_
  try refine C_topi (y := nI _) (by assumption) ?_
  refine C_table (pc' := 108) rfl (by decide) ?_
  refine C_iconst (y := nI 2) rfl (by decide) ?_
  exact C_iret rfl rfl (by first | trivial | exact Or.inl rfl | exact Or.inr rfl | assumption | exact b01) ⟨rfl, rfl⟩
theorem c_kb8 {a : Nat} (he : cE S 5 a = true) (ho : cI S 5 0 a = nI 8) : CalC X (d + 1) j_X7_kindsBelow [.ref (cA S 5 a)] S (fun v S' => v = some (.int (nI (kbl.getD 8 0))) ∧ S' = S) := by
  refine CalC_of (md := md_X7_kindsBelow) rfl (Nat.le_of_ble_eq_true rfl) ?_
  show WC X d t_X7_kindsBelow 7 (some .int) _ 0 [(0, .ref (cA S 5 a))] [] _
  first | refine C_aload_n rfl rfl ?_ | refine C_aload_nN rfl rfl ?_
  refine C_getI (t0 := 5) rfl rfl (by decide) rfl rfl (Or.inl rfl) rfl (by assumption) ?_
  try refine C_topi (y := nI _) (by assumption) ?_
  refine C_table (pc' := 104) rfl (by decide) ?_
  refine C_iconst (y := nI 2) rfl (by decide) ?_
  exact C_iret rfl rfl (by first | trivial | exact Or.inl rfl | exact Or.inr rfl | assumption | exact b01) ⟨rfl, rfl⟩
theorem c_wt9 {a b : Nat} (he : cE S 5 a = true) (ho : cI S 5 0 a = nI 9) (hb : cI S 5 2 a = nI b) : CalC X (d + 1) j_X7_wanted [.ref (cA S 5 a)] S (fun v S' => v = some (.int (nI (wnt 9 b))) ∧ S' = S) := by
  refine CalC_of (md := md_X7_wanted) rfl (Nat.le_of_ble_eq_true rfl) ?_
  show WC X d t_X7_wanted 7 (some .int) _ 0 [(0, .ref (cA S 5 a))] [] _
  first | refine C_aload_n rfl rfl ?_ | refine C_aload_nN rfl rfl ?_
  refine C_getI (t0 := 5) rfl rfl (by decide) rfl rfl (Or.inl rfl) rfl (by assumption) ?_
  try refine C_topi (y := nI _) (by assumption) ?_
  refine C_table (pc' := 147) rfl (by decide) ?_
  refine C_iconst (y := nI 2) rfl (by decide) ?_
  exact C_iret rfl rfl (by first | trivial | exact Or.inl rfl | exact Or.inr rfl | assumption | exact b01) ⟨rfl, rfl⟩
theorem c_ka9 {a : Nat} (he : cE S 5 a = true) (ho : cI S 5 0 a = nI 9) : CalC X (d + 1) j_X7_kindsAbove [.ref (cA S 5 a)] S (fun v S' => v = some (.int (nI (kal.getD 9 0))) ∧ S' = S) := by
  refine CalC_of (md := md_X7_kindsAbove) rfl (Nat.le_of_ble_eq_true rfl) ?_
  show WC X d t_X7_kindsAbove 7 (some .int) _ 0 [(0, .ref (cA S 5 a))] [] _
  first | refine C_aload_n rfl rfl ?_ | refine C_aload_nN rfl rfl ?_
  refine C_getI (t0 := 5) rfl rfl (by decide) rfl rfl (Or.inl rfl) rfl (by assumption) ?_
  try refine C_topi (y := nI _) (by assumption) ?_
  refine C_table (pc' := 108) rfl (by decide) ?_
  refine C_iconst (y := nI 2) rfl (by decide) ?_
  exact C_iret rfl rfl (by first | trivial | exact Or.inl rfl | exact Or.inr rfl | assumption | exact b01) ⟨rfl, rfl⟩
theorem c_kb9 {a : Nat} (he : cE S 5 a = true) (ho : cI S 5 0 a = nI 9) : CalC X (d + 1) j_X7_kindsBelow [.ref (cA S 5 a)] S (fun v S' => v = some (.int (nI (kbl.getD 9 0))) ∧ S' = S) := by
  refine CalC_of (md := md_X7_kindsBelow) rfl (Nat.le_of_ble_eq_true rfl) ?_
  show WC X d t_X7_kindsBelow 7 (some .int) _ 0 [(0, .ref (cA S 5 a))] [] _
  first | refine C_aload_n rfl rfl ?_ | refine C_aload_nN rfl rfl ?_
  refine C_getI (t0 := 5) rfl rfl (by decide) rfl rfl (Or.inl rfl) rfl (by assumption) ?_
  try refine C_topi (y := nI _) (by assumption) ?_
  refine C_table (pc' := 104) rfl (by decide) ?_
  refine C_iconst (y := nI 2) rfl (by decide) ?_
  exact C_iret rfl rfl (by first | trivial | exact Or.inl rfl | exact Or.inr rfl | assumption | exact b01) ⟨rfl, rfl⟩
theorem c_wt10 {a b : Nat} (he : cE S 5 a = true) (ho : cI S 5 0 a = nI 10) (hb : cI S 5 2 a = nI b) : CalC X (d + 1) j_X7_wanted [.ref (cA S 5 a)] S (fun v S' => v = some (.int (nI (wnt 10 b))) ∧ S' = S) := by
  refine CalC_of (md := md_X7_wanted) rfl (Nat.le_of_ble_eq_true rfl) ?_
  show WC X d t_X7_wanted 7 (some .int) _ 0 [(0, .ref (cA S 5 a))] [] _
  first | refine C_aload_n rfl rfl ?_ | refine C_aload_nN rfl rfl ?_
  refine C_getI (t0 := 5) rfl rfl (by decide) rfl rfl (Or.inl rfl) rfl (by assumption) ?_
  try refine C_topi (y := nI _) (by assumption) ?_
  refine C_table (pc' := 147) rfl (by decide) ?_
  refine C_iconst (y := nI 2) rfl (by decide) ?_
  exact C_iret rfl rfl (by first | trivial | exact Or.inl rfl | exact Or.inr rfl | assumption | exact b01) ⟨rfl, rfl⟩
theorem c_ka10 {a : Nat} (he : cE S 5 a = true) (ho : cI S 5 0 a = nI 10) : CalC X (d + 1) j_X7_kindsAbove [.ref (cA S 5 a)] S (fun v S' => v = some (.int (nI (kal.getD 10 0))) ∧ S' = S) := by
  refine CalC_of (md := md_X7_kindsAbove) rfl (Nat.le_of_ble_eq_true rfl) ?_
  show WC X d t_X7_kindsAbove 7 (some .int) _ 0 [(0, .ref (cA S 5 a))] [] _
  first | refine C_aload_n rfl rfl ?_ | refine C_aload_nN rfl rfl ?_
  refine C_getI (t0 := 5) rfl rfl (by decide) rfl rfl (Or.inl rfl) rfl (by assumption) ?_
  try refine C_topi (y := nI _) (by assumption) ?_
  refine C_table (pc' := 108) rfl (by decide) ?_
  refine C_iconst (y := nI 2) rfl (by decide) ?_
  exact C_iret rfl rfl (by first | trivial | exact Or.inl rfl | exact Or.inr rfl | assumption | exact b01) ⟨rfl, rfl⟩
theorem c_kb10 {a : Nat} (he : cE S 5 a = true) (ho : cI S 5 0 a = nI 10) : CalC X (d + 1) j_X7_kindsBelow [.ref (cA S 5 a)] S (fun v S' => v = some (.int (nI (kbl.getD 10 0))) ∧ S' = S) := by
  refine CalC_of (md := md_X7_kindsBelow) rfl (Nat.le_of_ble_eq_true rfl) ?_
  show WC X d t_X7_kindsBelow 7 (some .int) _ 0 [(0, .ref (cA S 5 a))] [] _
  first | refine C_aload_n rfl rfl ?_ | refine C_aload_nN rfl rfl ?_
  refine C_getI (t0 := 5) rfl rfl (by decide) rfl rfl (Or.inl rfl) rfl (by assumption) ?_
  try refine C_topi (y := nI _) (by assumption) ?_
  refine C_table (pc' := 104) rfl (by decide) ?_
  refine C_iconst (y := nI 2) rfl (by decide) ?_
  exact C_iret rfl rfl (by first | trivial | exact Or.inl rfl | exact Or.inr rfl | assumption | exact b01) ⟨rfl, rfl⟩
theorem c_wt11 {a b : Nat} (he : cE S 5 a = true) (ho : cI S 5 0 a = nI 11) (hb : cI S 5 2 a = nI b) : CalC X (d + 1) j_X7_wanted [.ref (cA S 5 a)] S (fun v S' => v = some (.int (nI (wnt 11 b))) ∧ S' = S) := by
  refine CalC_of (md := md_X7_wanted) rfl (Nat.le_of_ble_eq_true rfl) ?_
  show WC X d t_X7_wanted 7 (some .int) _ 0 [(0, .ref (cA S 5 a))] [] _
  first | refine C_aload_n rfl rfl ?_ | refine C_aload_nN rfl rfl ?_
  refine C_getI (t0 := 5) rfl rfl (by decide) rfl rfl (Or.inl rfl) rfl (by assumption) ?_
  try refine C_topi (y := nI _) (by assumption) ?_
  refine C_table (pc' := 147) rfl (by decide) ?_
  refine C_iconst (y := nI 2) rfl (by decide) ?_
  exact C_iret rfl rfl (by first | trivial | exact Or.inl rfl | exact Or.inr rfl | assumption | exact b01) ⟨rfl, rfl⟩
theorem c_ka11 {a : Nat} (he : cE S 5 a = true) (ho : cI S 5 0 a = nI 11) : CalC X (d + 1) j_X7_kindsAbove [.ref (cA S 5 a)] S (fun v S' => v = some (.int (nI (kal.getD 11 0))) ∧ S' = S) := by
  refine CalC_of (md := md_X7_kindsAbove) rfl (Nat.le_of_ble_eq_true rfl) ?_
  show WC X d t_X7_kindsAbove 7 (some .int) _ 0 [(0, .ref (cA S 5 a))] [] _
  first | refine C_aload_n rfl rfl ?_ | refine C_aload_nN rfl rfl ?_
  refine C_getI (t0 := 5) rfl rfl (by decide) rfl rfl (Or.inl rfl) rfl (by assumption) ?_
  try refine C_topi (y := nI _) (by assumption) ?_
  refine C_table (pc' := 108) rfl (by decide) ?_
  refine C_iconst (y := nI 2) rfl (by decide) ?_
  exact C_iret rfl rfl (by first | trivial | exact Or.inl rfl | exact Or.inr rfl | assumption | exact b01) ⟨rfl, rfl⟩
theorem c_kb11 {a : Nat} (he : cE S 5 a = true) (ho : cI S 5 0 a = nI 11) : CalC X (d + 1) j_X7_kindsBelow [.ref (cA S 5 a)] S (fun v S' => v = some (.int (nI (kbl.getD 11 0))) ∧ S' = S) := by
  refine CalC_of (md := md_X7_kindsBelow) rfl (Nat.le_of_ble_eq_true rfl) ?_
  show WC X d t_X7_kindsBelow 7 (some .int) _ 0 [(0, .ref (cA S 5 a))] [] _
  first | refine C_aload_n rfl rfl ?_ | refine C_aload_nN rfl rfl ?_
  refine C_getI (t0 := 5) rfl rfl (by decide) rfl rfl (Or.inl rfl) rfl (by assumption) ?_
  try refine C_topi (y := nI _) (by assumption) ?_
  refine C_table (pc' := 104) rfl (by decide) ?_
  refine C_iconst (y := nI 2) rfl (by decide) ?_
  exact C_iret rfl rfl (by first | trivial | exact Or.inl rfl | exact Or.inr rfl | assumption | exact b01) ⟨rfl, rfl⟩
theorem c_wt12 {a b : Nat} (he : cE S 5 a = true) (ho : cI S 5 0 a = nI 12) (hb : cI S 5 2 a = nI b) : CalC X (d + 1) j_X7_wanted [.ref (cA S 5 a)] S (fun v S' => v = some (.int (nI (wnt 12 b))) ∧ S' = S) := by
  refine CalC_of (md := md_X7_wanted) rfl (Nat.le_of_ble_eq_true rfl) ?_
  show WC X d t_X7_wanted 7 (some .int) _ 0 [(0, .ref (cA S 5 a))] [] _
  first | refine C_aload_n rfl rfl ?_ | refine C_aload_nN rfl rfl ?_
  refine C_getI (t0 := 5) rfl rfl (by decide) rfl rfl (Or.inl rfl) rfl (by assumption) ?_
  try refine C_topi (y := nI _) (by assumption) ?_
  refine C_table (pc' := 147) rfl (by decide) ?_
  refine C_iconst (y := nI 2) rfl (by decide) ?_
  exact C_iret rfl rfl (by first | trivial | exact Or.inl rfl | exact Or.inr rfl | assumption | exact b01) ⟨rfl, rfl⟩
theorem c_ka12 {a : Nat} (he : cE S 5 a = true) (ho : cI S 5 0 a = nI 12) : CalC X (d + 1) j_X7_kindsAbove [.ref (cA S 5 a)] S (fun v S' => v = some (.int (nI (kal.getD 12 0))) ∧ S' = S) := by
  refine CalC_of (md := md_X7_kindsAbove) rfl (Nat.le_of_ble_eq_true rfl) ?_
  show WC X d t_X7_kindsAbove 7 (some .int) _ 0 [(0, .ref (cA S 5 a))] [] _
  first | refine C_aload_n rfl rfl ?_ | refine C_aload_nN rfl rfl ?_
  refine C_getI (t0 := 5) rfl rfl (by decide) rfl rfl (Or.inl rfl) rfl (by assumption) ?_
  try refine C_topi (y := nI _) (by assumption) ?_
  refine C_table (pc' := 114) rfl (by decide) ?_
  refine C_bipush (y := nI 15) rfl (by decide) ?_
  exact C_iret rfl rfl (by first | trivial | exact Or.inl rfl | exact Or.inr rfl | assumption | exact b01) ⟨rfl, rfl⟩
theorem c_kb12 {a : Nat} (he : cE S 5 a = true) (ho : cI S 5 0 a = nI 12) : CalC X (d + 1) j_X7_kindsBelow [.ref (cA S 5 a)] S (fun v S' => v = some (.int (nI (kbl.getD 12 0))) ∧ S' = S) := by
  refine CalC_of (md := md_X7_kindsBelow) rfl (Nat.le_of_ble_eq_true rfl) ?_
  show WC X d t_X7_kindsBelow 7 (some .int) _ 0 [(0, .ref (cA S 5 a))] [] _
  first | refine C_aload_n rfl rfl ?_ | refine C_aload_nN rfl rfl ?_
  refine C_getI (t0 := 5) rfl rfl (by decide) rfl rfl (Or.inl rfl) rfl (by assumption) ?_
  try refine C_topi (y := nI _) (by assumption) ?_
  refine C_table (pc' := 108) rfl (by decide) ?_
  refine C_bipush (y := nI 15) rfl (by decide) ?_
  exact C_iret rfl rfl (by first | trivial | exact Or.inl rfl | exact Or.inr rfl | assumption | exact b01) ⟨rfl, rfl⟩
theorem c_wt13 {a b : Nat} (he : cE S 5 a = true) (ho : cI S 5 0 a = nI 13) (hb : cI S 5 2 a = nI b) : CalC X (d + 1) j_X7_wanted [.ref (cA S 5 a)] S (fun v S' => v = some (.int (nI (wnt 13 b))) ∧ S' = S) := by
  refine CalC_of (md := md_X7_wanted) rfl (Nat.le_of_ble_eq_true rfl) ?_
  show WC X d t_X7_wanted 7 (some .int) _ 0 [(0, .ref (cA S 5 a))] [] _
  first | refine C_aload_n rfl rfl ?_ | refine C_aload_nN rfl rfl ?_
  refine C_getI (t0 := 5) rfl rfl (by decide) rfl rfl (Or.inl rfl) rfl (by assumption) ?_
  try refine C_topi (y := nI _) (by assumption) ?_
  refine C_table (pc' := 151) rfl (by decide) ?_
  refine C_iconst (y := nI 0) rfl (by decide) ?_
  exact C_iret rfl rfl (by first | trivial | exact Or.inl rfl | exact Or.inr rfl | assumption | exact b01) ⟨rfl, rfl⟩
theorem c_ka13 {a : Nat} (he : cE S 5 a = true) (ho : cI S 5 0 a = nI 13) : CalC X (d + 1) j_X7_kindsAbove [.ref (cA S 5 a)] S (fun v S' => v = some (.int (nI (kal.getD 13 0))) ∧ S' = S) := by
  refine CalC_of (md := md_X7_kindsAbove) rfl (Nat.le_of_ble_eq_true rfl) ?_
  show WC X d t_X7_kindsAbove 7 (some .int) _ 0 [(0, .ref (cA S 5 a))] [] _
  first | refine C_aload_n rfl rfl ?_ | refine C_aload_nN rfl rfl ?_
  refine C_getI (t0 := 5) rfl rfl (by decide) rfl rfl (Or.inl rfl) rfl (by assumption) ?_
  try refine C_topi (y := nI _) (by assumption) ?_
  refine C_table (pc' := 114) rfl (by decide) ?_
  refine C_bipush (y := nI 15) rfl (by decide) ?_
  exact C_iret rfl rfl (by first | trivial | exact Or.inl rfl | exact Or.inr rfl | assumption | exact b01) ⟨rfl, rfl⟩
theorem c_kb13 {a : Nat} (he : cE S 5 a = true) (ho : cI S 5 0 a = nI 13) : CalC X (d + 1) j_X7_kindsBelow [.ref (cA S 5 a)] S (fun v S' => v = some (.int (nI (kbl.getD 13 0))) ∧ S' = S) := by
  refine CalC_of (md := md_X7_kindsBelow) rfl (Nat.le_of_ble_eq_true rfl) ?_
  show WC X d t_X7_kindsBelow 7 (some .int) _ 0 [(0, .ref (cA S 5 a))] [] _
  first | refine C_aload_n rfl rfl ?_ | refine C_aload_nN rfl rfl ?_
  refine C_getI (t0 := 5) rfl rfl (by decide) rfl rfl (Or.inl rfl) rfl (by assumption) ?_
  try refine C_topi (y := nI _) (by assumption) ?_
  refine C_table (pc' := 108) rfl (by decide) ?_
  refine C_bipush (y := nI 15) rfl (by decide) ?_
  exact C_iret rfl rfl (by first | trivial | exact Or.inl rfl | exact Or.inr rfl | assumption | exact b01) ⟨rfl, rfl⟩
theorem c_wt14 {a b : Nat} (he : cE S 5 a = true) (ho : cI S 5 0 a = nI 14) (hb : cI S 5 2 a = nI b) : CalC X (d + 1) j_X7_wanted [.ref (cA S 5 a)] S (fun v S' => v = some (.int (nI (wnt 14 b))) ∧ S' = S) := by
  refine CalC_of (md := md_X7_wanted) rfl (Nat.le_of_ble_eq_true rfl) ?_
  show WC X d t_X7_wanted 7 (some .int) _ 0 [(0, .ref (cA S 5 a))] [] _
  first | refine C_aload_n rfl rfl ?_ | refine C_aload_nN rfl rfl ?_
  refine C_getI (t0 := 5) rfl rfl (by decide) rfl rfl (Or.inl rfl) rfl (by assumption) ?_
  try refine C_topi (y := nI _) (by assumption) ?_
  refine C_table (pc' := 149) rfl (by decide) ?_
  refine C_iconst (y := nI 1) rfl (by decide) ?_
  exact C_iret rfl rfl (by first | trivial | exact Or.inl rfl | exact Or.inr rfl | assumption | exact b01) ⟨rfl, rfl⟩
theorem c_ka14 {a : Nat} (he : cE S 5 a = true) (ho : cI S 5 0 a = nI 14) : CalC X (d + 1) j_X7_kindsAbove [.ref (cA S 5 a)] S (fun v S' => v = some (.int (nI (kal.getD 14 0))) ∧ S' = S) := by
  refine CalC_of (md := md_X7_kindsAbove) rfl (Nat.le_of_ble_eq_true rfl) ?_
  show WC X d t_X7_kindsAbove 7 (some .int) _ 0 [(0, .ref (cA S 5 a))] [] _
  first | refine C_aload_n rfl rfl ?_ | refine C_aload_nN rfl rfl ?_
  refine C_getI (t0 := 5) rfl rfl (by decide) rfl rfl (Or.inl rfl) rfl (by assumption) ?_
  try refine C_topi (y := nI _) (by assumption) ?_
  refine C_table (pc' := 114) rfl (by decide) ?_
  refine C_bipush (y := nI 15) rfl (by decide) ?_
  exact C_iret rfl rfl (by first | trivial | exact Or.inl rfl | exact Or.inr rfl | assumption | exact b01) ⟨rfl, rfl⟩
theorem c_kb14 {a : Nat} (he : cE S 5 a = true) (ho : cI S 5 0 a = nI 14) : CalC X (d + 1) j_X7_kindsBelow [.ref (cA S 5 a)] S (fun v S' => v = some (.int (nI (kbl.getD 14 0))) ∧ S' = S) := by
  refine CalC_of (md := md_X7_kindsBelow) rfl (Nat.le_of_ble_eq_true rfl) ?_
  show WC X d t_X7_kindsBelow 7 (some .int) _ 0 [(0, .ref (cA S 5 a))] [] _
  first | refine C_aload_n rfl rfl ?_ | refine C_aload_nN rfl rfl ?_
  refine C_getI (t0 := 5) rfl rfl (by decide) rfl rfl (Or.inl rfl) rfl (by assumption) ?_
  try refine C_topi (y := nI _) (by assumption) ?_
  refine C_table (pc' := 108) rfl (by decide) ?_
  refine C_bipush (y := nI 15) rfl (by decide) ?_
  exact C_iret rfl rfl (by first | trivial | exact Or.inl rfl | exact Or.inr rfl | assumption | exact b01) ⟨rfl, rfl⟩
theorem c_wt15 {a b : Nat} (he : cE S 5 a = true) (ho : cI S 5 0 a = nI 15) (hb : cI S 5 2 a = nI b) : CalC X (d + 1) j_X7_wanted [.ref (cA S 5 a)] S (fun v S' => v = some (.int (nI (wnt 15 b))) ∧ S' = S) := by
  refine CalC_of (md := md_X7_wanted) rfl (Nat.le_of_ble_eq_true rfl) ?_
  show WC X d t_X7_wanted 7 (some .int) _ 0 [(0, .ref (cA S 5 a))] [] _
  first | refine C_aload_n rfl rfl ?_ | refine C_aload_nN rfl rfl ?_
  refine C_getI (t0 := 5) rfl rfl (by decide) rfl rfl (Or.inl rfl) rfl (by assumption) ?_
  try refine C_topi (y := nI _) (by assumption) ?_
  refine C_table (pc' := 151) rfl (by decide) ?_
  refine C_iconst (y := nI 0) rfl (by decide) ?_
  exact C_iret rfl rfl (by first | trivial | exact Or.inl rfl | exact Or.inr rfl | assumption | exact b01) ⟨rfl, rfl⟩
theorem c_ka15 {a : Nat} (he : cE S 5 a = true) (ho : cI S 5 0 a = nI 15) : CalC X (d + 1) j_X7_kindsAbove [.ref (cA S 5 a)] S (fun v S' => v = some (.int (nI (kal.getD 15 0))) ∧ S' = S) := by
  refine CalC_of (md := md_X7_kindsAbove) rfl (Nat.le_of_ble_eq_true rfl) ?_
  show WC X d t_X7_kindsAbove 7 (some .int) _ 0 [(0, .ref (cA S 5 a))] [] _
  first | refine C_aload_n rfl rfl ?_ | refine C_aload_nN rfl rfl ?_
  refine C_getI (t0 := 5) rfl rfl (by decide) rfl rfl (Or.inl rfl) rfl (by assumption) ?_
  try refine C_topi (y := nI _) (by assumption) ?_
  refine C_table (pc' := 114) rfl (by decide) ?_
  refine C_bipush (y := nI 15) rfl (by decide) ?_
  exact C_iret rfl rfl (by first | trivial | exact Or.inl rfl | exact Or.inr rfl | assumption | exact b01) ⟨rfl, rfl⟩
theorem c_kb15 {a : Nat} (he : cE S 5 a = true) (ho : cI S 5 0 a = nI 15) : CalC X (d + 1) j_X7_kindsBelow [.ref (cA S 5 a)] S (fun v S' => v = some (.int (nI (kbl.getD 15 0))) ∧ S' = S) := by
  refine CalC_of (md := md_X7_kindsBelow) rfl (Nat.le_of_ble_eq_true rfl) ?_
  show WC X d t_X7_kindsBelow 7 (some .int) _ 0 [(0, .ref (cA S 5 a))] [] _
  first | refine C_aload_n rfl rfl ?_ | refine C_aload_nN rfl rfl ?_
  refine C_getI (t0 := 5) rfl rfl (by decide) rfl rfl (Or.inl rfl) rfl (by assumption) ?_
  try refine C_topi (y := nI _) (by assumption) ?_
  refine C_table (pc' := 108) rfl (by decide) ?_
  refine C_bipush (y := nI 15) rfl (by decide) ?_
  exact C_iret rfl rfl (by first | trivial | exact Or.inl rfl | exact Or.inr rfl | assumption | exact b01) ⟨rfl, rfl⟩
theorem c_wt16 {a b : Nat} (he : cE S 5 a = true) (ho : cI S 5 0 a = nI 16) (hb : cI S 5 2 a = nI b) : CalC X (d + 1) j_X7_wanted [.ref (cA S 5 a)] S (fun v S' => v = some (.int (nI (wnt 16 b))) ∧ S' = S) := by
  refine CalC_of (md := md_X7_wanted) rfl (Nat.le_of_ble_eq_true rfl) ?_
  show WC X d t_X7_wanted 7 (some .int) _ 0 [(0, .ref (cA S 5 a))] [] _
  first | refine C_aload_n rfl rfl ?_ | refine C_aload_nN rfl rfl ?_
  refine C_getI (t0 := 5) rfl rfl (by decide) rfl rfl (Or.inl rfl) rfl (by assumption) ?_
  try refine C_topi (y := nI _) (by assumption) ?_
  refine C_table (pc' := 149) rfl (by decide) ?_
  refine C_iconst (y := nI 1) rfl (by decide) ?_
  exact C_iret rfl rfl (by first | trivial | exact Or.inl rfl | exact Or.inr rfl | assumption | exact b01) ⟨rfl, rfl⟩
theorem c_ka16 {a : Nat} (he : cE S 5 a = true) (ho : cI S 5 0 a = nI 16) : CalC X (d + 1) j_X7_kindsAbove [.ref (cA S 5 a)] S (fun v S' => v = some (.int (nI (kal.getD 16 0))) ∧ S' = S) := by
  refine CalC_of (md := md_X7_kindsAbove) rfl (Nat.le_of_ble_eq_true rfl) ?_
  show WC X d t_X7_kindsAbove 7 (some .int) _ 0 [(0, .ref (cA S 5 a))] [] _
  first | refine C_aload_n rfl rfl ?_ | refine C_aload_nN rfl rfl ?_
  refine C_getI (t0 := 5) rfl rfl (by decide) rfl rfl (Or.inl rfl) rfl (by assumption) ?_
  try refine C_topi (y := nI _) (by assumption) ?_
  refine C_table (pc' := 114) rfl (by decide) ?_
  refine C_bipush (y := nI 15) rfl (by decide) ?_
  exact C_iret rfl rfl (by first | trivial | exact Or.inl rfl | exact Or.inr rfl | assumption | exact b01) ⟨rfl, rfl⟩
theorem c_kb16 {a : Nat} (he : cE S 5 a = true) (ho : cI S 5 0 a = nI 16) : CalC X (d + 1) j_X7_kindsBelow [.ref (cA S 5 a)] S (fun v S' => v = some (.int (nI (kbl.getD 16 0))) ∧ S' = S) := by
  refine CalC_of (md := md_X7_kindsBelow) rfl (Nat.le_of_ble_eq_true rfl) ?_
  show WC X d t_X7_kindsBelow 7 (some .int) _ 0 [(0, .ref (cA S 5 a))] [] _
  first | refine C_aload_n rfl rfl ?_ | refine C_aload_nN rfl rfl ?_
  refine C_getI (t0 := 5) rfl rfl (by decide) rfl rfl (Or.inl rfl) rfl (by assumption) ?_
  try refine C_topi (y := nI _) (by assumption) ?_
  refine C_table (pc' := 108) rfl (by decide) ?_
  refine C_bipush (y := nI 15) rfl (by decide) ?_
  exact C_iret rfl rfl (by first | trivial | exact Or.inl rfl | exact Or.inr rfl | assumption | exact b01) ⟨rfl, rfl⟩
theorem c_wt17 {a b : Nat} (he : cE S 5 a = true) (ho : cI S 5 0 a = nI 17) (hb : cI S 5 2 a = nI b) : CalC X (d + 1) j_X7_wanted [.ref (cA S 5 a)] S (fun v S' => v = some (.int (nI (wnt 17 b))) ∧ S' = S) := by
  refine CalC_of (md := md_X7_wanted) rfl (Nat.le_of_ble_eq_true rfl) ?_
  show WC X d t_X7_wanted 7 (some .int) _ 0 [(0, .ref (cA S 5 a))] [] _
  first | refine C_aload_n rfl rfl ?_ | refine C_aload_nN rfl rfl ?_
  refine C_getI (t0 := 5) rfl rfl (by decide) rfl rfl (Or.inl rfl) rfl (by assumption) ?_
  try refine C_topi (y := nI _) (by assumption) ?_
  refine C_table (pc' := 151) rfl (by decide) ?_
  refine C_iconst (y := nI 0) rfl (by decide) ?_
  exact C_iret rfl rfl (by first | trivial | exact Or.inl rfl | exact Or.inr rfl | assumption | exact b01) ⟨rfl, rfl⟩
theorem c_ka17 {a : Nat} (he : cE S 5 a = true) (ho : cI S 5 0 a = nI 17) : CalC X (d + 1) j_X7_kindsAbove [.ref (cA S 5 a)] S (fun v S' => v = some (.int (nI (kal.getD 17 0))) ∧ S' = S) := by
  refine CalC_of (md := md_X7_kindsAbove) rfl (Nat.le_of_ble_eq_true rfl) ?_
  show WC X d t_X7_kindsAbove 7 (some .int) _ 0 [(0, .ref (cA S 5 a))] [] _
  first | refine C_aload_n rfl rfl ?_ | refine C_aload_nN rfl rfl ?_
  refine C_getI (t0 := 5) rfl rfl (by decide) rfl rfl (Or.inl rfl) rfl (by assumption) ?_
  try refine C_topi (y := nI _) (by assumption) ?_
  refine C_table (pc' := 114) rfl (by decide) ?_
  refine C_bipush (y := nI 15) rfl (by decide) ?_
  exact C_iret rfl rfl (by first | trivial | exact Or.inl rfl | exact Or.inr rfl | assumption | exact b01) ⟨rfl, rfl⟩
theorem c_kb17 {a : Nat} (he : cE S 5 a = true) (ho : cI S 5 0 a = nI 17) : CalC X (d + 1) j_X7_kindsBelow [.ref (cA S 5 a)] S (fun v S' => v = some (.int (nI (kbl.getD 17 0))) ∧ S' = S) := by
  refine CalC_of (md := md_X7_kindsBelow) rfl (Nat.le_of_ble_eq_true rfl) ?_
  show WC X d t_X7_kindsBelow 7 (some .int) _ 0 [(0, .ref (cA S 5 a))] [] _
  first | refine C_aload_n rfl rfl ?_ | refine C_aload_nN rfl rfl ?_
  refine C_getI (t0 := 5) rfl rfl (by decide) rfl rfl (Or.inl rfl) rfl (by assumption) ?_
  try refine C_topi (y := nI _) (by assumption) ?_
  refine C_table (pc' := 108) rfl (by decide) ?_
  refine C_bipush (y := nI 15) rfl (by decide) ?_
  exact C_iret rfl rfl (by first | trivial | exact Or.inl rfl | exact Or.inr rfl | assumption | exact b01) ⟨rfl, rfl⟩
theorem c_wt18 {a b : Nat} (he : cE S 5 a = true) (ho : cI S 5 0 a = nI 18) (hb : cI S 5 2 a = nI b) : CalC X (d + 1) j_X7_wanted [.ref (cA S 5 a)] S (fun v S' => v = some (.int (nI (wnt 18 b))) ∧ S' = S) := by
  refine CalC_of (md := md_X7_wanted) rfl (Nat.le_of_ble_eq_true rfl) ?_
  show WC X d t_X7_wanted 7 (some .int) _ 0 [(0, .ref (cA S 5 a))] [] _
  first | refine C_aload_n rfl rfl ?_ | refine C_aload_nN rfl rfl ?_
  refine C_getI (t0 := 5) rfl rfl (by decide) rfl rfl (Or.inl rfl) rfl (by assumption) ?_
  try refine C_topi (y := nI _) (by assumption) ?_
  refine C_table (pc' := 149) rfl (by decide) ?_
  refine C_iconst (y := nI 1) rfl (by decide) ?_
  exact C_iret rfl rfl (by first | trivial | exact Or.inl rfl | exact Or.inr rfl | assumption | exact b01) ⟨rfl, rfl⟩
theorem c_ka18 {a : Nat} (he : cE S 5 a = true) (ho : cI S 5 0 a = nI 18) : CalC X (d + 1) j_X7_kindsAbove [.ref (cA S 5 a)] S (fun v S' => v = some (.int (nI (kal.getD 18 0))) ∧ S' = S) := by
  refine CalC_of (md := md_X7_kindsAbove) rfl (Nat.le_of_ble_eq_true rfl) ?_
  show WC X d t_X7_kindsAbove 7 (some .int) _ 0 [(0, .ref (cA S 5 a))] [] _
  first | refine C_aload_n rfl rfl ?_ | refine C_aload_nN rfl rfl ?_
  refine C_getI (t0 := 5) rfl rfl (by decide) rfl rfl (Or.inl rfl) rfl (by assumption) ?_
  try refine C_topi (y := nI _) (by assumption) ?_
  refine C_table (pc' := 114) rfl (by decide) ?_
  refine C_bipush (y := nI 15) rfl (by decide) ?_
  exact C_iret rfl rfl (by first | trivial | exact Or.inl rfl | exact Or.inr rfl | assumption | exact b01) ⟨rfl, rfl⟩
theorem c_kb18 {a : Nat} (he : cE S 5 a = true) (ho : cI S 5 0 a = nI 18) : CalC X (d + 1) j_X7_kindsBelow [.ref (cA S 5 a)] S (fun v S' => v = some (.int (nI (kbl.getD 18 0))) ∧ S' = S) := by
  refine CalC_of (md := md_X7_kindsBelow) rfl (Nat.le_of_ble_eq_true rfl) ?_
  show WC X d t_X7_kindsBelow 7 (some .int) _ 0 [(0, .ref (cA S 5 a))] [] _
  first | refine C_aload_n rfl rfl ?_ | refine C_aload_nN rfl rfl ?_
  refine C_getI (t0 := 5) rfl rfl (by decide) rfl rfl (Or.inl rfl) rfl (by assumption) ?_
  try refine C_topi (y := nI _) (by assumption) ?_
  refine C_table (pc' := 108) rfl (by decide) ?_
  refine C_bipush (y := nI 15) rfl (by decide) ?_
  exact C_iret rfl rfl (by first | trivial | exact Or.inl rfl | exact Or.inr rfl | assumption | exact b01) ⟨rfl, rfl⟩
theorem c_wt19 {a b : Nat} (he : cE S 5 a = true) (ho : cI S 5 0 a = nI 19) (hb : cI S 5 2 a = nI b) : CalC X (d + 1) j_X7_wanted [.ref (cA S 5 a)] S (fun v S' => v = some (.int (nI (wnt 19 b))) ∧ S' = S) := by
  refine CalC_of (md := md_X7_wanted) rfl (Nat.le_of_ble_eq_true rfl) ?_
  show WC X d t_X7_wanted 7 (some .int) _ 0 [(0, .ref (cA S 5 a))] [] _
  first | refine C_aload_n rfl rfl ?_ | refine C_aload_nN rfl rfl ?_
  refine C_getI (t0 := 5) rfl rfl (by decide) rfl rfl (Or.inl rfl) rfl (by assumption) ?_
  try refine C_topi (y := nI _) (by assumption) ?_
  refine C_table (pc' := 149) rfl (by decide) ?_
  refine C_iconst (y := nI 1) rfl (by decide) ?_
  exact C_iret rfl rfl (by first | trivial | exact Or.inl rfl | exact Or.inr rfl | assumption | exact b01) ⟨rfl, rfl⟩
theorem c_ka19 {a : Nat} (he : cE S 5 a = true) (ho : cI S 5 0 a = nI 19) : CalC X (d + 1) j_X7_kindsAbove [.ref (cA S 5 a)] S (fun v S' => v = some (.int (nI (kal.getD 19 0))) ∧ S' = S) := by
  refine CalC_of (md := md_X7_kindsAbove) rfl (Nat.le_of_ble_eq_true rfl) ?_
  show WC X d t_X7_kindsAbove 7 (some .int) _ 0 [(0, .ref (cA S 5 a))] [] _
  first | refine C_aload_n rfl rfl ?_ | refine C_aload_nN rfl rfl ?_
  refine C_getI (t0 := 5) rfl rfl (by decide) rfl rfl (Or.inl rfl) rfl (by assumption) ?_
  try refine C_topi (y := nI _) (by assumption) ?_
  refine C_table (pc' := 112) rfl (by decide) ?_
  refine C_iconst (y := nI 5) rfl (by decide) ?_
  exact C_iret rfl rfl (by first | trivial | exact Or.inl rfl | exact Or.inr rfl | assumption | exact b01) ⟨rfl, rfl⟩
theorem c_kb19 {a : Nat} (he : cE S 5 a = true) (ho : cI S 5 0 a = nI 19) : CalC X (d + 1) j_X7_kindsBelow [.ref (cA S 5 a)] S (fun v S' => v = some (.int (nI (kbl.getD 19 0))) ∧ S' = S) := by
  refine CalC_of (md := md_X7_kindsBelow) rfl (Nat.le_of_ble_eq_true rfl) ?_
  show WC X d t_X7_kindsBelow 7 (some .int) _ 0 [(0, .ref (cA S 5 a))] [] _
  first | refine C_aload_n rfl rfl ?_ | refine C_aload_nN rfl rfl ?_
  refine C_getI (t0 := 5) rfl rfl (by decide) rfl rfl (Or.inl rfl) rfl (by assumption) ?_
  try refine C_topi (y := nI _) (by assumption) ?_
  refine C_table (pc' := 108) rfl (by decide) ?_
  refine C_bipush (y := nI 15) rfl (by decide) ?_
  exact C_iret rfl rfl (by first | trivial | exact Or.inl rfl | exact Or.inr rfl | assumption | exact b01) ⟨rfl, rfl⟩
theorem c_wt20 {a b : Nat} (he : cE S 5 a = true) (ho : cI S 5 0 a = nI 20) (hb : cI S 5 2 a = nI b) : CalC X (d + 1) j_X7_wanted [.ref (cA S 5 a)] S (fun v S' => v = some (.int (nI (wnt 20 b))) ∧ S' = S) := by
  refine CalC_of (md := md_X7_wanted) rfl (Nat.le_of_ble_eq_true rfl) ?_
  show WC X d t_X7_wanted 7 (some .int) _ 0 [(0, .ref (cA S 5 a))] [] _
  first | refine C_aload_n rfl rfl ?_ | refine C_aload_nN rfl rfl ?_
  refine C_getI (t0 := 5) rfl rfl (by decide) rfl rfl (Or.inl rfl) rfl (by assumption) ?_
  try refine C_topi (y := nI _) (by assumption) ?_
  refine C_table (pc' := 149) rfl (by decide) ?_
  refine C_iconst (y := nI 1) rfl (by decide) ?_
  exact C_iret rfl rfl (by first | trivial | exact Or.inl rfl | exact Or.inr rfl | assumption | exact b01) ⟨rfl, rfl⟩
theorem c_ka20 {a : Nat} (he : cE S 5 a = true) (ho : cI S 5 0 a = nI 20) : CalC X (d + 1) j_X7_kindsAbove [.ref (cA S 5 a)] S (fun v S' => v = some (.int (nI (kal.getD 20 0))) ∧ S' = S) := by
  refine CalC_of (md := md_X7_kindsAbove) rfl (Nat.le_of_ble_eq_true rfl) ?_
  show WC X d t_X7_kindsAbove 7 (some .int) _ 0 [(0, .ref (cA S 5 a))] [] _
  first | refine C_aload_n rfl rfl ?_ | refine C_aload_nN rfl rfl ?_
  refine C_getI (t0 := 5) rfl rfl (by decide) rfl rfl (Or.inl rfl) rfl (by assumption) ?_
  try refine C_topi (y := nI _) (by assumption) ?_
  refine C_table (pc' := 110) rfl (by decide) ?_
  refine C_iconst (y := nI 4) rfl (by decide) ?_
  exact C_iret rfl rfl (by first | trivial | exact Or.inl rfl | exact Or.inr rfl | assumption | exact b01) ⟨rfl, rfl⟩
theorem c_kb20 {a : Nat} (he : cE S 5 a = true) (ho : cI S 5 0 a = nI 20) : CalC X (d + 1) j_X7_kindsBelow [.ref (cA S 5 a)] S (fun v S' => v = some (.int (nI (kbl.getD 20 0))) ∧ S' = S) := by
  refine CalC_of (md := md_X7_kindsBelow) rfl (Nat.le_of_ble_eq_true rfl) ?_
  show WC X d t_X7_kindsBelow 7 (some .int) _ 0 [(0, .ref (cA S 5 a))] [] _
  first | refine C_aload_n rfl rfl ?_ | refine C_aload_nN rfl rfl ?_
  refine C_getI (t0 := 5) rfl rfl (by decide) rfl rfl (Or.inl rfl) rfl (by assumption) ?_
  try refine C_topi (y := nI _) (by assumption) ?_
  refine C_table (pc' := 108) rfl (by decide) ?_
  refine C_bipush (y := nI 15) rfl (by decide) ?_
  exact C_iret rfl rfl (by first | trivial | exact Or.inl rfl | exact Or.inr rfl | assumption | exact b01) ⟨rfl, rfl⟩
theorem c_wt21 {a b : Nat} (he : cE S 5 a = true) (ho : cI S 5 0 a = nI 21) (hb : cI S 5 2 a = nI b) : CalC X (d + 1) j_X7_wanted [.ref (cA S 5 a)] S (fun v S' => v = some (.int (nI (wnt 21 b))) ∧ S' = S) := by
  refine CalC_of (md := md_X7_wanted) rfl (Nat.le_of_ble_eq_true rfl) ?_
  show WC X d t_X7_wanted 7 (some .int) _ 0 [(0, .ref (cA S 5 a))] [] _
  first | refine C_aload_n rfl rfl ?_ | refine C_aload_nN rfl rfl ?_
  refine C_getI (t0 := 5) rfl rfl (by decide) rfl rfl (Or.inl rfl) rfl (by assumption) ?_
  try refine C_topi (y := nI _) (by assumption) ?_
  refine C_table (pc' := 149) rfl (by decide) ?_
  refine C_iconst (y := nI 1) rfl (by decide) ?_
  exact C_iret rfl rfl (by first | trivial | exact Or.inl rfl | exact Or.inr rfl | assumption | exact b01) ⟨rfl, rfl⟩
theorem c_ka21 {a : Nat} (he : cE S 5 a = true) (ho : cI S 5 0 a = nI 21) : CalC X (d + 1) j_X7_kindsAbove [.ref (cA S 5 a)] S (fun v S' => v = some (.int (nI (kal.getD 21 0))) ∧ S' = S) := by
  refine CalC_of (md := md_X7_kindsAbove) rfl (Nat.le_of_ble_eq_true rfl) ?_
  show WC X d t_X7_kindsAbove 7 (some .int) _ 0 [(0, .ref (cA S 5 a))] [] _
  first | refine C_aload_n rfl rfl ?_ | refine C_aload_nN rfl rfl ?_
  refine C_getI (t0 := 5) rfl rfl (by decide) rfl rfl (Or.inl rfl) rfl (by assumption) ?_
  try refine C_topi (y := nI _) (by assumption) ?_
  refine C_table (pc' := 114) rfl (by decide) ?_
  refine C_bipush (y := nI 15) rfl (by decide) ?_
  exact C_iret rfl rfl (by first | trivial | exact Or.inl rfl | exact Or.inr rfl | assumption | exact b01) ⟨rfl, rfl⟩
theorem c_kb21 {a : Nat} (he : cE S 5 a = true) (ho : cI S 5 0 a = nI 21) : CalC X (d + 1) j_X7_kindsBelow [.ref (cA S 5 a)] S (fun v S' => v = some (.int (nI (kbl.getD 21 0))) ∧ S' = S) := by
  refine CalC_of (md := md_X7_kindsBelow) rfl (Nat.le_of_ble_eq_true rfl) ?_
  show WC X d t_X7_kindsBelow 7 (some .int) _ 0 [(0, .ref (cA S 5 a))] [] _
  first | refine C_aload_n rfl rfl ?_ | refine C_aload_nN rfl rfl ?_
  refine C_getI (t0 := 5) rfl rfl (by decide) rfl rfl (Or.inl rfl) rfl (by assumption) ?_
  try refine C_topi (y := nI _) (by assumption) ?_
  refine C_table (pc' := 108) rfl (by decide) ?_
  refine C_bipush (y := nI 15) rfl (by decide) ?_
  exact C_iret rfl rfl (by first | trivial | exact Or.inl rfl | exact Or.inr rfl | assumption | exact b01) ⟨rfl, rfl⟩
theorem c_wt22 {a b : Nat} (he : cE S 5 a = true) (ho : cI S 5 0 a = nI 22) (hb : cI S 5 2 a = nI b) : CalC X (d + 1) j_X7_wanted [.ref (cA S 5 a)] S (fun v S' => v = some (.int (nI (wnt 22 b))) ∧ S' = S) := by
  refine CalC_of (md := md_X7_wanted) rfl (Nat.le_of_ble_eq_true rfl) ?_
  show WC X d t_X7_wanted 7 (some .int) _ 0 [(0, .ref (cA S 5 a))] [] _
  first | refine C_aload_n rfl rfl ?_ | refine C_aload_nN rfl rfl ?_
  refine C_getI (t0 := 5) rfl rfl (by decide) rfl rfl (Or.inl rfl) rfl (by assumption) ?_
  try refine C_topi (y := nI _) (by assumption) ?_
  refine C_table (pc' := 147) rfl (by decide) ?_
  refine C_iconst (y := nI 2) rfl (by decide) ?_
  exact C_iret rfl rfl (by first | trivial | exact Or.inl rfl | exact Or.inr rfl | assumption | exact b01) ⟨rfl, rfl⟩
theorem c_ka22 {a : Nat} (he : cE S 5 a = true) (ho : cI S 5 0 a = nI 22) : CalC X (d + 1) j_X7_kindsAbove [.ref (cA S 5 a)] S (fun v S' => v = some (.int (nI (kal.getD 22 0))) ∧ S' = S) := by
  refine CalC_of (md := md_X7_kindsAbove) rfl (Nat.le_of_ble_eq_true rfl) ?_
  show WC X d t_X7_kindsAbove 7 (some .int) _ 0 [(0, .ref (cA S 5 a))] [] _
  first | refine C_aload_n rfl rfl ?_ | refine C_aload_nN rfl rfl ?_
  refine C_getI (t0 := 5) rfl rfl (by decide) rfl rfl (Or.inl rfl) rfl (by assumption) ?_
  try refine C_topi (y := nI _) (by assumption) ?_
  refine C_table (pc' := 114) rfl (by decide) ?_
  refine C_bipush (y := nI 15) rfl (by decide) ?_
  exact C_iret rfl rfl (by first | trivial | exact Or.inl rfl | exact Or.inr rfl | assumption | exact b01) ⟨rfl, rfl⟩
theorem c_kb22 {a : Nat} (he : cE S 5 a = true) (ho : cI S 5 0 a = nI 22) : CalC X (d + 1) j_X7_kindsBelow [.ref (cA S 5 a)] S (fun v S' => v = some (.int (nI (kbl.getD 22 0))) ∧ S' = S) := by
  refine CalC_of (md := md_X7_kindsBelow) rfl (Nat.le_of_ble_eq_true rfl) ?_
  show WC X d t_X7_kindsBelow 7 (some .int) _ 0 [(0, .ref (cA S 5 a))] [] _
  first | refine C_aload_n rfl rfl ?_ | refine C_aload_nN rfl rfl ?_
  refine C_getI (t0 := 5) rfl rfl (by decide) rfl rfl (Or.inl rfl) rfl (by assumption) ?_
  try refine C_topi (y := nI _) (by assumption) ?_
  refine C_table (pc' := 106) rfl (by decide) ?_
  refine C_iconst (y := nI 4) rfl (by decide) ?_
  exact C_iret rfl rfl (by first | trivial | exact Or.inl rfl | exact Or.inr rfl | assumption | exact b01) ⟨rfl, rfl⟩
theorem c_wt23 {a b : Nat} (he : cE S 5 a = true) (ho : cI S 5 0 a = nI 23) (hb : cI S 5 2 a = nI b) : CalC X (d + 1) j_X7_wanted [.ref (cA S 5 a)] S (fun v S' => v = some (.int (nI (wnt 23 b))) ∧ S' = S) := by
  refine CalC_of (md := md_X7_wanted) rfl (Nat.le_of_ble_eq_true rfl) ?_
  show WC X d t_X7_wanted 7 (some .int) _ 0 [(0, .ref (cA S 5 a))] [] _
  first | refine C_aload_n rfl rfl ?_ | refine C_aload_nN rfl rfl ?_
  refine C_getI (t0 := 5) rfl rfl (by decide) rfl rfl (Or.inl rfl) rfl (by assumption) ?_
  try refine C_topi (y := nI _) (by assumption) ?_
  refine C_table (pc' := 149) rfl (by decide) ?_
  refine C_iconst (y := nI 1) rfl (by decide) ?_
  exact C_iret rfl rfl (by first | trivial | exact Or.inl rfl | exact Or.inr rfl | assumption | exact b01) ⟨rfl, rfl⟩
theorem c_ka23 {a : Nat} (he : cE S 5 a = true) (ho : cI S 5 0 a = nI 23) : CalC X (d + 1) j_X7_kindsAbove [.ref (cA S 5 a)] S (fun v S' => v = some (.int (nI (kal.getD 23 0))) ∧ S' = S) := by
  refine CalC_of (md := md_X7_kindsAbove) rfl (Nat.le_of_ble_eq_true rfl) ?_
  show WC X d t_X7_kindsAbove 7 (some .int) _ 0 [(0, .ref (cA S 5 a))] [] _
  first | refine C_aload_n rfl rfl ?_ | refine C_aload_nN rfl rfl ?_
  refine C_getI (t0 := 5) rfl rfl (by decide) rfl rfl (Or.inl rfl) rfl (by assumption) ?_
  try refine C_topi (y := nI _) (by assumption) ?_
  refine C_table (pc' := 110) rfl (by decide) ?_
  refine C_iconst (y := nI 4) rfl (by decide) ?_
  exact C_iret rfl rfl (by first | trivial | exact Or.inl rfl | exact Or.inr rfl | assumption | exact b01) ⟨rfl, rfl⟩
theorem c_kb23 {a : Nat} (he : cE S 5 a = true) (ho : cI S 5 0 a = nI 23) : CalC X (d + 1) j_X7_kindsBelow [.ref (cA S 5 a)] S (fun v S' => v = some (.int (nI (kbl.getD 23 0))) ∧ S' = S) := by
  refine CalC_of (md := md_X7_kindsBelow) rfl (Nat.le_of_ble_eq_true rfl) ?_
  show WC X d t_X7_kindsBelow 7 (some .int) _ 0 [(0, .ref (cA S 5 a))] [] _
  first | refine C_aload_n rfl rfl ?_ | refine C_aload_nN rfl rfl ?_
  refine C_getI (t0 := 5) rfl rfl (by decide) rfl rfl (Or.inl rfl) rfl (by assumption) ?_
  try refine C_topi (y := nI _) (by assumption) ?_
  refine C_table (pc' := 108) rfl (by decide) ?_
  refine C_bipush (y := nI 15) rfl (by decide) ?_
  exact C_iret rfl rfl (by first | trivial | exact Or.inl rfl | exact Or.inr rfl | assumption | exact b01) ⟨rfl, rfl⟩
theorem c_wt24 {a b : Nat} (he : cE S 5 a = true) (ho : cI S 5 0 a = nI 24) (hb : cI S 5 2 a = nI b) : CalC X (d + 1) j_X7_wanted [.ref (cA S 5 a)] S (fun v S' => v = some (.int (nI (wnt 24 b))) ∧ S' = S) := by
  refine CalC_of (md := md_X7_wanted) rfl (Nat.le_of_ble_eq_true rfl) ?_
  show WC X d t_X7_wanted 7 (some .int) _ 0 [(0, .ref (cA S 5 a))] [] _
  first | refine C_aload_n rfl rfl ?_ | refine C_aload_nN rfl rfl ?_
  refine C_getI (t0 := 5) rfl rfl (by decide) rfl rfl (Or.inl rfl) rfl (by assumption) ?_
  try refine C_topi (y := nI _) (by assumption) ?_
  refine C_table (pc' := 149) rfl (by decide) ?_
  refine C_iconst (y := nI 1) rfl (by decide) ?_
  exact C_iret rfl rfl (by first | trivial | exact Or.inl rfl | exact Or.inr rfl | assumption | exact b01) ⟨rfl, rfl⟩
theorem c_ka24 {a : Nat} (he : cE S 5 a = true) (ho : cI S 5 0 a = nI 24) : CalC X (d + 1) j_X7_kindsAbove [.ref (cA S 5 a)] S (fun v S' => v = some (.int (nI (kal.getD 24 0))) ∧ S' = S) := by
  refine CalC_of (md := md_X7_kindsAbove) rfl (Nat.le_of_ble_eq_true rfl) ?_
  show WC X d t_X7_kindsAbove 7 (some .int) _ 0 [(0, .ref (cA S 5 a))] [] _
  first | refine C_aload_n rfl rfl ?_ | refine C_aload_nN rfl rfl ?_
  refine C_getI (t0 := 5) rfl rfl (by decide) rfl rfl (Or.inl rfl) rfl (by assumption) ?_
  try refine C_topi (y := nI _) (by assumption) ?_
  refine C_table (pc' := 114) rfl (by decide) ?_
  refine C_bipush (y := nI 15) rfl (by decide) ?_
  exact C_iret rfl rfl (by first | trivial | exact Or.inl rfl | exact Or.inr rfl | assumption | exact b01) ⟨rfl, rfl⟩
theorem c_kb24 {a : Nat} (he : cE S 5 a = true) (ho : cI S 5 0 a = nI 24) : CalC X (d + 1) j_X7_kindsBelow [.ref (cA S 5 a)] S (fun v S' => v = some (.int (nI (kbl.getD 24 0))) ∧ S' = S) := by
  refine CalC_of (md := md_X7_kindsBelow) rfl (Nat.le_of_ble_eq_true rfl) ?_
  show WC X d t_X7_kindsBelow 7 (some .int) _ 0 [(0, .ref (cA S 5 a))] [] _
  first | refine C_aload_n rfl rfl ?_ | refine C_aload_nN rfl rfl ?_
  refine C_getI (t0 := 5) rfl rfl (by decide) rfl rfl (Or.inl rfl) rfl (by assumption) ?_
  try refine C_topi (y := nI _) (by assumption) ?_
  refine C_table (pc' := 108) rfl (by decide) ?_
  refine C_bipush (y := nI 15) rfl (by decide) ?_
  exact C_iret rfl rfl (by first | trivial | exact Or.inl rfl | exact Or.inr rfl | assumption | exact b01) ⟨rfl, rfl⟩
theorem c_wt25 {a b : Nat} (he : cE S 5 a = true) (ho : cI S 5 0 a = nI 25) (hb : cI S 5 2 a = nI b) : CalC X (d + 1) j_X7_wanted [.ref (cA S 5 a)] S (fun v S' => v = some (.int (nI (wnt 25 b))) ∧ S' = S) := by
  refine CalC_of (md := md_X7_wanted) rfl (Nat.le_of_ble_eq_true rfl) ?_
  show WC X d t_X7_wanted 7 (some .int) _ 0 [(0, .ref (cA S 5 a))] [] _
  first | refine C_aload_n rfl rfl ?_ | refine C_aload_nN rfl rfl ?_
  refine C_getI (t0 := 5) rfl rfl (by decide) rfl rfl (Or.inl rfl) rfl (by assumption) ?_
  try refine C_topi (y := nI _) (by assumption) ?_
  refine C_table (pc' := 149) rfl (by decide) ?_
  refine C_iconst (y := nI 1) rfl (by decide) ?_
  exact C_iret rfl rfl (by first | trivial | exact Or.inl rfl | exact Or.inr rfl | assumption | exact b01) ⟨rfl, rfl⟩
theorem c_ka25 {a : Nat} (he : cE S 5 a = true) (ho : cI S 5 0 a = nI 25) : CalC X (d + 1) j_X7_kindsAbove [.ref (cA S 5 a)] S (fun v S' => v = some (.int (nI (kal.getD 25 0))) ∧ S' = S) := by
  refine CalC_of (md := md_X7_kindsAbove) rfl (Nat.le_of_ble_eq_true rfl) ?_
  show WC X d t_X7_kindsAbove 7 (some .int) _ 0 [(0, .ref (cA S 5 a))] [] _
  first | refine C_aload_n rfl rfl ?_ | refine C_aload_nN rfl rfl ?_
  refine C_getI (t0 := 5) rfl rfl (by decide) rfl rfl (Or.inl rfl) rfl (by assumption) ?_
  try refine C_topi (y := nI _) (by assumption) ?_
  refine C_table (pc' := 110) rfl (by decide) ?_
  refine C_iconst (y := nI 4) rfl (by decide) ?_
  exact C_iret rfl rfl (by first | trivial | exact Or.inl rfl | exact Or.inr rfl | assumption | exact b01) ⟨rfl, rfl⟩
theorem c_kb25 {a : Nat} (he : cE S 5 a = true) (ho : cI S 5 0 a = nI 25) : CalC X (d + 1) j_X7_kindsBelow [.ref (cA S 5 a)] S (fun v S' => v = some (.int (nI (kbl.getD 25 0))) ∧ S' = S) := by
  refine CalC_of (md := md_X7_kindsBelow) rfl (Nat.le_of_ble_eq_true rfl) ?_
  show WC X d t_X7_kindsBelow 7 (some .int) _ 0 [(0, .ref (cA S 5 a))] [] _
  first | refine C_aload_n rfl rfl ?_ | refine C_aload_nN rfl rfl ?_
  refine C_getI (t0 := 5) rfl rfl (by decide) rfl rfl (Or.inl rfl) rfl (by assumption) ?_
  try refine C_topi (y := nI _) (by assumption) ?_
  refine C_table (pc' := 108) rfl (by decide) ?_
  refine C_bipush (y := nI 15) rfl (by decide) ?_
  exact C_iret rfl rfl (by first | trivial | exact Or.inl rfl | exact Or.inr rfl | assumption | exact b01) ⟨rfl, rfl⟩
theorem c_wt26 {a b : Nat} (he : cE S 5 a = true) (ho : cI S 5 0 a = nI 26) (hb : cI S 5 2 a = nI b) : CalC X (d + 1) j_X7_wanted [.ref (cA S 5 a)] S (fun v S' => v = some (.int (nI (wnt 26 b))) ∧ S' = S) := by
  refine CalC_of (md := md_X7_wanted) rfl (Nat.le_of_ble_eq_true rfl) ?_
  show WC X d t_X7_wanted 7 (some .int) _ 0 [(0, .ref (cA S 5 a))] [] _
  first | refine C_aload_n rfl rfl ?_ | refine C_aload_nN rfl rfl ?_
  refine C_getI (t0 := 5) rfl rfl (by decide) rfl rfl (Or.inl rfl) rfl (by assumption) ?_
  try refine C_topi (y := nI _) (by assumption) ?_
  refine C_table (pc' := 147) rfl (by decide) ?_
  refine C_iconst (y := nI 2) rfl (by decide) ?_
  exact C_iret rfl rfl (by first | trivial | exact Or.inl rfl | exact Or.inr rfl | assumption | exact b01) ⟨rfl, rfl⟩
theorem c_ka26 {a : Nat} (he : cE S 5 a = true) (ho : cI S 5 0 a = nI 26) : CalC X (d + 1) j_X7_kindsAbove [.ref (cA S 5 a)] S (fun v S' => v = some (.int (nI (kal.getD 26 0))) ∧ S' = S) := by
  refine CalC_of (md := md_X7_kindsAbove) rfl (Nat.le_of_ble_eq_true rfl) ?_
  show WC X d t_X7_kindsAbove 7 (some .int) _ 0 [(0, .ref (cA S 5 a))] [] _
  first | refine C_aload_n rfl rfl ?_ | refine C_aload_nN rfl rfl ?_
  refine C_getI (t0 := 5) rfl rfl (by decide) rfl rfl (Or.inl rfl) rfl (by assumption) ?_
  try refine C_topi (y := nI _) (by assumption) ?_
  refine C_table (pc' := 112) rfl (by decide) ?_
  refine C_iconst (y := nI 5) rfl (by decide) ?_
  exact C_iret rfl rfl (by first | trivial | exact Or.inl rfl | exact Or.inr rfl | assumption | exact b01) ⟨rfl, rfl⟩
theorem c_kb26 {a : Nat} (he : cE S 5 a = true) (ho : cI S 5 0 a = nI 26) : CalC X (d + 1) j_X7_kindsBelow [.ref (cA S 5 a)] S (fun v S' => v = some (.int (nI (kbl.getD 26 0))) ∧ S' = S) := by
  refine CalC_of (md := md_X7_kindsBelow) rfl (Nat.le_of_ble_eq_true rfl) ?_
  show WC X d t_X7_kindsBelow 7 (some .int) _ 0 [(0, .ref (cA S 5 a))] [] _
  first | refine C_aload_n rfl rfl ?_ | refine C_aload_nN rfl rfl ?_
  refine C_getI (t0 := 5) rfl rfl (by decide) rfl rfl (Or.inl rfl) rfl (by assumption) ?_
  try refine C_topi (y := nI _) (by assumption) ?_
  refine C_table (pc' := 106) rfl (by decide) ?_
  refine C_iconst (y := nI 4) rfl (by decide) ?_
  exact C_iret rfl rfl (by first | trivial | exact Or.inl rfl | exact Or.inr rfl | assumption | exact b01) ⟨rfl, rfl⟩
theorem c_wt27 {a b : Nat} (he : cE S 5 a = true) (ho : cI S 5 0 a = nI 27) (hb : cI S 5 2 a = nI b) : CalC X (d + 1) j_X7_wanted [.ref (cA S 5 a)] S (fun v S' => v = some (.int (nI (wnt 27 b))) ∧ S' = S) := by
  refine CalC_of (md := md_X7_wanted) rfl (Nat.le_of_ble_eq_true rfl) ?_
  show WC X d t_X7_wanted 7 (some .int) _ 0 [(0, .ref (cA S 5 a))] [] _
  first | refine C_aload_n rfl rfl ?_ | refine C_aload_nN rfl rfl ?_
  refine C_getI (t0 := 5) rfl rfl (by decide) rfl rfl (Or.inl rfl) rfl (by assumption) ?_
  try refine C_topi (y := nI _) (by assumption) ?_
  refine C_table (pc' := 149) rfl (by decide) ?_
  refine C_iconst (y := nI 1) rfl (by decide) ?_
  exact C_iret rfl rfl (by first | trivial | exact Or.inl rfl | exact Or.inr rfl | assumption | exact b01) ⟨rfl, rfl⟩
theorem c_ka27 {a : Nat} (he : cE S 5 a = true) (ho : cI S 5 0 a = nI 27) : CalC X (d + 1) j_X7_kindsAbove [.ref (cA S 5 a)] S (fun v S' => v = some (.int (nI (kal.getD 27 0))) ∧ S' = S) := by
  refine CalC_of (md := md_X7_kindsAbove) rfl (Nat.le_of_ble_eq_true rfl) ?_
  show WC X d t_X7_kindsAbove 7 (some .int) _ 0 [(0, .ref (cA S 5 a))] [] _
  first | refine C_aload_n rfl rfl ?_ | refine C_aload_nN rfl rfl ?_
  refine C_getI (t0 := 5) rfl rfl (by decide) rfl rfl (Or.inl rfl) rfl (by assumption) ?_
  try refine C_topi (y := nI _) (by assumption) ?_
  refine C_table (pc' := 112) rfl (by decide) ?_
  refine C_iconst (y := nI 5) rfl (by decide) ?_
  exact C_iret rfl rfl (by first | trivial | exact Or.inl rfl | exact Or.inr rfl | assumption | exact b01) ⟨rfl, rfl⟩
theorem c_kb27 {a : Nat} (he : cE S 5 a = true) (ho : cI S 5 0 a = nI 27) : CalC X (d + 1) j_X7_kindsBelow [.ref (cA S 5 a)] S (fun v S' => v = some (.int (nI (kbl.getD 27 0))) ∧ S' = S) := by
  refine CalC_of (md := md_X7_kindsBelow) rfl (Nat.le_of_ble_eq_true rfl) ?_
  show WC X d t_X7_kindsBelow 7 (some .int) _ 0 [(0, .ref (cA S 5 a))] [] _
  first | refine C_aload_n rfl rfl ?_ | refine C_aload_nN rfl rfl ?_
  refine C_getI (t0 := 5) rfl rfl (by decide) rfl rfl (Or.inl rfl) rfl (by assumption) ?_
  try refine C_topi (y := nI _) (by assumption) ?_
  refine C_table (pc' := 108) rfl (by decide) ?_
  refine C_bipush (y := nI 15) rfl (by decide) ?_
  exact C_iret rfl rfl (by first | trivial | exact Or.inl rfl | exact Or.inr rfl | assumption | exact b01) ⟨rfl, rfl⟩
theorem c_wt28 {a b : Nat} (he : cE S 5 a = true) (ho : cI S 5 0 a = nI 28) (hb : cI S 5 2 a = nI b) : CalC X (d + 1) j_X7_wanted [.ref (cA S 5 a)] S (fun v S' => v = some (.int (nI (wnt 28 b))) ∧ S' = S) := by
  refine CalC_of (md := md_X7_wanted) rfl (Nat.le_of_ble_eq_true rfl) ?_
  show WC X d t_X7_wanted 7 (some .int) _ 0 [(0, .ref (cA S 5 a))] [] _
  first | refine C_aload_n rfl rfl ?_ | refine C_aload_nN rfl rfl ?_
  refine C_getI (t0 := 5) rfl rfl (by decide) rfl rfl (Or.inl rfl) rfl (by assumption) ?_
  try refine C_topi (y := nI _) (by assumption) ?_
  refine C_table (pc' := 151) rfl (by decide) ?_
  refine C_iconst (y := nI 0) rfl (by decide) ?_
  exact C_iret rfl rfl (by first | trivial | exact Or.inl rfl | exact Or.inr rfl | assumption | exact b01) ⟨rfl, rfl⟩
theorem c_ka28 {a : Nat} (he : cE S 5 a = true) (ho : cI S 5 0 a = nI 28) : CalC X (d + 1) j_X7_kindsAbove [.ref (cA S 5 a)] S (fun v S' => v = some (.int (nI (kal.getD 28 0))) ∧ S' = S) := by
  refine CalC_of (md := md_X7_kindsAbove) rfl (Nat.le_of_ble_eq_true rfl) ?_
  show WC X d t_X7_kindsAbove 7 (some .int) _ 0 [(0, .ref (cA S 5 a))] [] _
  first | refine C_aload_n rfl rfl ?_ | refine C_aload_nN rfl rfl ?_
  refine C_getI (t0 := 5) rfl rfl (by decide) rfl rfl (Or.inl rfl) rfl (by assumption) ?_
  try refine C_topi (y := nI _) (by assumption) ?_
  refine C_table (pc' := 114) rfl (by decide) ?_
  refine C_bipush (y := nI 15) rfl (by decide) ?_
  exact C_iret rfl rfl (by first | trivial | exact Or.inl rfl | exact Or.inr rfl | assumption | exact b01) ⟨rfl, rfl⟩
theorem c_kb28 {a : Nat} (he : cE S 5 a = true) (ho : cI S 5 0 a = nI 28) : CalC X (d + 1) j_X7_kindsBelow [.ref (cA S 5 a)] S (fun v S' => v = some (.int (nI (kbl.getD 28 0))) ∧ S' = S) := by
  refine CalC_of (md := md_X7_kindsBelow) rfl (Nat.le_of_ble_eq_true rfl) ?_
  show WC X d t_X7_kindsBelow 7 (some .int) _ 0 [(0, .ref (cA S 5 a))] [] _
  first | refine C_aload_n rfl rfl ?_ | refine C_aload_nN rfl rfl ?_
  refine C_getI (t0 := 5) rfl rfl (by decide) rfl rfl (Or.inl rfl) rfl (by assumption) ?_
  try refine C_topi (y := nI _) (by assumption) ?_
  refine C_table (pc' := 108) rfl (by decide) ?_
  refine C_bipush (y := nI 15) rfl (by decide) ?_
  exact C_iret rfl rfl (by first | trivial | exact Or.inl rfl | exact Or.inr rfl | assumption | exact b01) ⟨rfl, rfl⟩
theorem c_wt29 {a b : Nat} (he : cE S 5 a = true) (ho : cI S 5 0 a = nI 29) (hb : cI S 5 2 a = nI b) : CalC X (d + 1) j_X7_wanted [.ref (cA S 5 a)] S (fun v S' => v = some (.int (nI (wnt 29 b))) ∧ S' = S) := by
  refine CalC_of (md := md_X7_wanted) rfl (Nat.le_of_ble_eq_true rfl) ?_
  show WC X d t_X7_wanted 7 (some .int) _ 0 [(0, .ref (cA S 5 a))] [] _
  first | refine C_aload_n rfl rfl ?_ | refine C_aload_nN rfl rfl ?_
  refine C_getI (t0 := 5) rfl rfl (by decide) rfl rfl (Or.inl rfl) rfl (by assumption) ?_
  try refine C_topi (y := nI _) (by assumption) ?_
  refine C_table (pc' := 140) rfl (by decide) ?_
  first | refine C_aload_n rfl rfl ?_ | refine C_aload_nN rfl rfl ?_
  refine C_getI (t0 := 5) rfl rfl (by decide) rfl rfl (Or.inl rfl) rfl (by assumption) ?_
  try refine C_topi (y := nI _) (by assumption) ?_
  refine C_iconst (y := nI 1) rfl (by decide) ?_
  first | refine C_iaddN rfl ?_ | refine C_iadd rfl ?_
  exact C_iret rfl rfl (by first | trivial | exact Or.inl rfl | exact Or.inr rfl | assumption | exact b01) ⟨rfl, rfl⟩
theorem c_ka29 {a : Nat} (he : cE S 5 a = true) (ho : cI S 5 0 a = nI 29) : CalC X (d + 1) j_X7_kindsAbove [.ref (cA S 5 a)] S (fun v S' => v = some (.int (nI (kal.getD 29 0))) ∧ S' = S) := by
  refine CalC_of (md := md_X7_kindsAbove) rfl (Nat.le_of_ble_eq_true rfl) ?_
  show WC X d t_X7_kindsAbove 7 (some .int) _ 0 [(0, .ref (cA S 5 a))] [] _
  first | refine C_aload_n rfl rfl ?_ | refine C_aload_nN rfl rfl ?_
  refine C_getI (t0 := 5) rfl rfl (by decide) rfl rfl (Or.inl rfl) rfl (by assumption) ?_
  try refine C_topi (y := nI _) (by assumption) ?_
  refine C_table (pc' := 114) rfl (by decide) ?_
  refine C_bipush (y := nI 15) rfl (by decide) ?_
  exact C_iret rfl rfl (by first | trivial | exact Or.inl rfl | exact Or.inr rfl | assumption | exact b01) ⟨rfl, rfl⟩
theorem c_kb29 {a : Nat} (he : cE S 5 a = true) (ho : cI S 5 0 a = nI 29) : CalC X (d + 1) j_X7_kindsBelow [.ref (cA S 5 a)] S (fun v S' => v = some (.int (nI (kbl.getD 29 0))) ∧ S' = S) := by
  refine CalC_of (md := md_X7_kindsBelow) rfl (Nat.le_of_ble_eq_true rfl) ?_
  show WC X d t_X7_kindsBelow 7 (some .int) _ 0 [(0, .ref (cA S 5 a))] [] _
  first | refine C_aload_n rfl rfl ?_ | refine C_aload_nN rfl rfl ?_
  refine C_getI (t0 := 5) rfl rfl (by decide) rfl rfl (Or.inl rfl) rfl (by assumption) ?_
  try refine C_topi (y := nI _) (by assumption) ?_
  refine C_table (pc' := 108) rfl (by decide) ?_
  refine C_bipush (y := nI 15) rfl (by decide) ?_
  exact C_iret rfl rfl (by first | trivial | exact Or.inl rfl | exact Or.inr rfl | assumption | exact b01) ⟨rfl, rfl⟩
theorem c_wt30 {a b : Nat} (he : cE S 5 a = true) (ho : cI S 5 0 a = nI 30) (hb : cI S 5 2 a = nI b) : CalC X (d + 1) j_X7_wanted [.ref (cA S 5 a)] S (fun v S' => v = some (.int (nI (wnt 30 b))) ∧ S' = S) := by
  refine CalC_of (md := md_X7_wanted) rfl (Nat.le_of_ble_eq_true rfl) ?_
  show WC X d t_X7_wanted 7 (some .int) _ 0 [(0, .ref (cA S 5 a))] [] _
  first | refine C_aload_n rfl rfl ?_ | refine C_aload_nN rfl rfl ?_
  refine C_getI (t0 := 5) rfl rfl (by decide) rfl rfl (Or.inl rfl) rfl (by assumption) ?_
  try refine C_topi (y := nI _) (by assumption) ?_
  refine C_table (pc' := 151) rfl (by decide) ?_
  refine C_iconst (y := nI 0) rfl (by decide) ?_
  exact C_iret rfl rfl (by first | trivial | exact Or.inl rfl | exact Or.inr rfl | assumption | exact b01) ⟨rfl, rfl⟩
theorem c_ka30 {a : Nat} (he : cE S 5 a = true) (ho : cI S 5 0 a = nI 30) : CalC X (d + 1) j_X7_kindsAbove [.ref (cA S 5 a)] S (fun v S' => v = some (.int (nI (kal.getD 30 0))) ∧ S' = S) := by
  refine CalC_of (md := md_X7_kindsAbove) rfl (Nat.le_of_ble_eq_true rfl) ?_
  show WC X d t_X7_kindsAbove 7 (some .int) _ 0 [(0, .ref (cA S 5 a))] [] _
  first | refine C_aload_n rfl rfl ?_ | refine C_aload_nN rfl rfl ?_
  refine C_getI (t0 := 5) rfl rfl (by decide) rfl rfl (Or.inl rfl) rfl (by assumption) ?_
  try refine C_topi (y := nI _) (by assumption) ?_
  refine C_table (pc' := 114) rfl (by decide) ?_
  refine C_bipush (y := nI 15) rfl (by decide) ?_
  exact C_iret rfl rfl (by first | trivial | exact Or.inl rfl | exact Or.inr rfl | assumption | exact b01) ⟨rfl, rfl⟩
theorem c_kb30 {a : Nat} (he : cE S 5 a = true) (ho : cI S 5 0 a = nI 30) : CalC X (d + 1) j_X7_kindsBelow [.ref (cA S 5 a)] S (fun v S' => v = some (.int (nI (kbl.getD 30 0))) ∧ S' = S) := by
  refine CalC_of (md := md_X7_kindsBelow) rfl (Nat.le_of_ble_eq_true rfl) ?_
  show WC X d t_X7_kindsBelow 7 (some .int) _ 0 [(0, .ref (cA S 5 a))] [] _
  first | refine C_aload_n rfl rfl ?_ | refine C_aload_nN rfl rfl ?_
  refine C_getI (t0 := 5) rfl rfl (by decide) rfl rfl (Or.inl rfl) rfl (by assumption) ?_
  try refine C_topi (y := nI _) (by assumption) ?_
  refine C_table (pc' := 108) rfl (by decide) ?_
  refine C_bipush (y := nI 15) rfl (by decide) ?_
  exact C_iret rfl rfl (by first | trivial | exact Or.inl rfl | exact Or.inr rfl | assumption | exact b01) ⟨rfl, rfl⟩
theorem c_wt31 {a b : Nat} (he : cE S 5 a = true) (ho : cI S 5 0 a = nI 31) (hb : cI S 5 2 a = nI b) : CalC X (d + 1) j_X7_wanted [.ref (cA S 5 a)] S (fun v S' => v = some (.int (nI (wnt 31 b))) ∧ S' = S) := by
  refine CalC_of (md := md_X7_wanted) rfl (Nat.le_of_ble_eq_true rfl) ?_
  show WC X d t_X7_wanted 7 (some .int) _ 0 [(0, .ref (cA S 5 a))] [] _
  first | refine C_aload_n rfl rfl ?_ | refine C_aload_nN rfl rfl ?_
  refine C_getI (t0 := 5) rfl rfl (by decide) rfl rfl (Or.inl rfl) rfl (by assumption) ?_
  try refine C_topi (y := nI _) (by assumption) ?_
  refine C_table (pc' := 149) rfl (by decide) ?_
  refine C_iconst (y := nI 1) rfl (by decide) ?_
  exact C_iret rfl rfl (by first | trivial | exact Or.inl rfl | exact Or.inr rfl | assumption | exact b01) ⟨rfl, rfl⟩
theorem c_ka31 {a : Nat} (he : cE S 5 a = true) (ho : cI S 5 0 a = nI 31) : CalC X (d + 1) j_X7_kindsAbove [.ref (cA S 5 a)] S (fun v S' => v = some (.int (nI (kal.getD 31 0))) ∧ S' = S) := by
  refine CalC_of (md := md_X7_kindsAbove) rfl (Nat.le_of_ble_eq_true rfl) ?_
  show WC X d t_X7_kindsAbove 7 (some .int) _ 0 [(0, .ref (cA S 5 a))] [] _
  first | refine C_aload_n rfl rfl ?_ | refine C_aload_nN rfl rfl ?_
  refine C_getI (t0 := 5) rfl rfl (by decide) rfl rfl (Or.inl rfl) rfl (by assumption) ?_
  try refine C_topi (y := nI _) (by assumption) ?_
  refine C_table (pc' := 114) rfl (by decide) ?_
  refine C_bipush (y := nI 15) rfl (by decide) ?_
  exact C_iret rfl rfl (by first | trivial | exact Or.inl rfl | exact Or.inr rfl | assumption | exact b01) ⟨rfl, rfl⟩
theorem c_kb31 {a : Nat} (he : cE S 5 a = true) (ho : cI S 5 0 a = nI 31) : CalC X (d + 1) j_X7_kindsBelow [.ref (cA S 5 a)] S (fun v S' => v = some (.int (nI (kbl.getD 31 0))) ∧ S' = S) := by
  refine CalC_of (md := md_X7_kindsBelow) rfl (Nat.le_of_ble_eq_true rfl) ?_
  show WC X d t_X7_kindsBelow 7 (some .int) _ 0 [(0, .ref (cA S 5 a))] [] _
  first | refine C_aload_n rfl rfl ?_ | refine C_aload_nN rfl rfl ?_
  refine C_getI (t0 := 5) rfl rfl (by decide) rfl rfl (Or.inl rfl) rfl (by assumption) ?_
  try refine C_topi (y := nI _) (by assumption) ?_
  refine C_table (pc' := 108) rfl (by decide) ?_
  refine C_bipush (y := nI 15) rfl (by decide) ?_
  exact C_iret rfl rfl (by first | trivial | exact Or.inl rfl | exact Or.inr rfl | assumption | exact b01) ⟨rfl, rfl⟩
theorem c_wt32 {a b : Nat} (he : cE S 5 a = true) (ho : cI S 5 0 a = nI 32) (hb : cI S 5 2 a = nI b) : CalC X (d + 1) j_X7_wanted [.ref (cA S 5 a)] S (fun v S' => v = some (.int (nI (wnt 32 b))) ∧ S' = S) := by
  refine CalC_of (md := md_X7_wanted) rfl (Nat.le_of_ble_eq_true rfl) ?_
  show WC X d t_X7_wanted 7 (some .int) _ 0 [(0, .ref (cA S 5 a))] [] _
  first | refine C_aload_n rfl rfl ?_ | refine C_aload_nN rfl rfl ?_
  refine C_getI (t0 := 5) rfl rfl (by decide) rfl rfl (Or.inl rfl) rfl (by assumption) ?_
  try refine C_topi (y := nI _) (by assumption) ?_
  refine C_table (pc' := 149) rfl (by decide) ?_
  refine C_iconst (y := nI 1) rfl (by decide) ?_
  exact C_iret rfl rfl (by first | trivial | exact Or.inl rfl | exact Or.inr rfl | assumption | exact b01) ⟨rfl, rfl⟩
theorem c_ka32 {a : Nat} (he : cE S 5 a = true) (ho : cI S 5 0 a = nI 32) : CalC X (d + 1) j_X7_kindsAbove [.ref (cA S 5 a)] S (fun v S' => v = some (.int (nI (kal.getD 32 0))) ∧ S' = S) := by
  refine CalC_of (md := md_X7_kindsAbove) rfl (Nat.le_of_ble_eq_true rfl) ?_
  show WC X d t_X7_kindsAbove 7 (some .int) _ 0 [(0, .ref (cA S 5 a))] [] _
  first | refine C_aload_n rfl rfl ?_ | refine C_aload_nN rfl rfl ?_
  refine C_getI (t0 := 5) rfl rfl (by decide) rfl rfl (Or.inl rfl) rfl (by assumption) ?_
  try refine C_topi (y := nI _) (by assumption) ?_
  refine C_table (pc' := 114) rfl (by decide) ?_
  refine C_bipush (y := nI 15) rfl (by decide) ?_
  exact C_iret rfl rfl (by first | trivial | exact Or.inl rfl | exact Or.inr rfl | assumption | exact b01) ⟨rfl, rfl⟩
theorem c_kb32 {a : Nat} (he : cE S 5 a = true) (ho : cI S 5 0 a = nI 32) : CalC X (d + 1) j_X7_kindsBelow [.ref (cA S 5 a)] S (fun v S' => v = some (.int (nI (kbl.getD 32 0))) ∧ S' = S) := by
  refine CalC_of (md := md_X7_kindsBelow) rfl (Nat.le_of_ble_eq_true rfl) ?_
  show WC X d t_X7_kindsBelow 7 (some .int) _ 0 [(0, .ref (cA S 5 a))] [] _
  first | refine C_aload_n rfl rfl ?_ | refine C_aload_nN rfl rfl ?_
  refine C_getI (t0 := 5) rfl rfl (by decide) rfl rfl (Or.inl rfl) rfl (by assumption) ?_
  try refine C_topi (y := nI _) (by assumption) ?_
  refine C_table (pc' := 108) rfl (by decide) ?_
  refine C_bipush (y := nI 15) rfl (by decide) ?_
  exact C_iret rfl rfl (by first | trivial | exact Or.inl rfl | exact Or.inr rfl | assumption | exact b01) ⟨rfl, rfl⟩
theorem c_wt33 {a b : Nat} (he : cE S 5 a = true) (ho : cI S 5 0 a = nI 33) (hb : cI S 5 2 a = nI b) : CalC X (d + 1) j_X7_wanted [.ref (cA S 5 a)] S (fun v S' => v = some (.int (nI (wnt 33 b))) ∧ S' = S) := by
  refine CalC_of (md := md_X7_wanted) rfl (Nat.le_of_ble_eq_true rfl) ?_
  show WC X d t_X7_wanted 7 (some .int) _ 0 [(0, .ref (cA S 5 a))] [] _
  first | refine C_aload_n rfl rfl ?_ | refine C_aload_nN rfl rfl ?_
  refine C_getI (t0 := 5) rfl rfl (by decide) rfl rfl (Or.inl rfl) rfl (by assumption) ?_
  try refine C_topi (y := nI _) (by assumption) ?_
  refine C_table (pc' := 151) rfl (by decide) ?_
  refine C_iconst (y := nI 0) rfl (by decide) ?_
  exact C_iret rfl rfl (by first | trivial | exact Or.inl rfl | exact Or.inr rfl | assumption | exact b01) ⟨rfl, rfl⟩
theorem c_ka33 {a : Nat} (he : cE S 5 a = true) (ho : cI S 5 0 a = nI 33) : CalC X (d + 1) j_X7_kindsAbove [.ref (cA S 5 a)] S (fun v S' => v = some (.int (nI (kal.getD 33 0))) ∧ S' = S) := by
  refine CalC_of (md := md_X7_kindsAbove) rfl (Nat.le_of_ble_eq_true rfl) ?_
  show WC X d t_X7_kindsAbove 7 (some .int) _ 0 [(0, .ref (cA S 5 a))] [] _
  first | refine C_aload_n rfl rfl ?_ | refine C_aload_nN rfl rfl ?_
  refine C_getI (t0 := 5) rfl rfl (by decide) rfl rfl (Or.inl rfl) rfl (by assumption) ?_
  try refine C_topi (y := nI _) (by assumption) ?_
  refine C_table (pc' := 114) rfl (by decide) ?_
  refine C_bipush (y := nI 15) rfl (by decide) ?_
  exact C_iret rfl rfl (by first | trivial | exact Or.inl rfl | exact Or.inr rfl | assumption | exact b01) ⟨rfl, rfl⟩
theorem c_kb33 {a : Nat} (he : cE S 5 a = true) (ho : cI S 5 0 a = nI 33) : CalC X (d + 1) j_X7_kindsBelow [.ref (cA S 5 a)] S (fun v S' => v = some (.int (nI (kbl.getD 33 0))) ∧ S' = S) := by
  refine CalC_of (md := md_X7_kindsBelow) rfl (Nat.le_of_ble_eq_true rfl) ?_
  show WC X d t_X7_kindsBelow 7 (some .int) _ 0 [(0, .ref (cA S 5 a))] [] _
  first | refine C_aload_n rfl rfl ?_ | refine C_aload_nN rfl rfl ?_
  refine C_getI (t0 := 5) rfl rfl (by decide) rfl rfl (Or.inl rfl) rfl (by assumption) ?_
  try refine C_topi (y := nI _) (by assumption) ?_
  refine C_table (pc' := 108) rfl (by decide) ?_
  refine C_bipush (y := nI 15) rfl (by decide) ?_
  exact C_iret rfl rfl (by first | trivial | exact Or.inl rfl | exact Or.inr rfl | assumption | exact b01) ⟨rfl, rfl⟩
theorem c_wt34 {a b : Nat} (he : cE S 5 a = true) (ho : cI S 5 0 a = nI 34) (hb : cI S 5 2 a = nI b) : CalC X (d + 1) j_X7_wanted [.ref (cA S 5 a)] S (fun v S' => v = some (.int (nI (wnt 34 b))) ∧ S' = S) := by
  refine CalC_of (md := md_X7_wanted) rfl (Nat.le_of_ble_eq_true rfl) ?_
  show WC X d t_X7_wanted 7 (some .int) _ 0 [(0, .ref (cA S 5 a))] [] _
  first | refine C_aload_n rfl rfl ?_ | refine C_aload_nN rfl rfl ?_
  refine C_getI (t0 := 5) rfl rfl (by decide) rfl rfl (Or.inl rfl) rfl (by assumption) ?_
  try refine C_topi (y := nI _) (by assumption) ?_
  refine C_table (pc' := 151) rfl (by decide) ?_
  refine C_iconst (y := nI 0) rfl (by decide) ?_
  exact C_iret rfl rfl (by first | trivial | exact Or.inl rfl | exact Or.inr rfl | assumption | exact b01) ⟨rfl, rfl⟩
theorem c_ka34 {a : Nat} (he : cE S 5 a = true) (ho : cI S 5 0 a = nI 34) : CalC X (d + 1) j_X7_kindsAbove [.ref (cA S 5 a)] S (fun v S' => v = some (.int (nI (kal.getD 34 0))) ∧ S' = S) := by
  refine CalC_of (md := md_X7_kindsAbove) rfl (Nat.le_of_ble_eq_true rfl) ?_
  show WC X d t_X7_kindsAbove 7 (some .int) _ 0 [(0, .ref (cA S 5 a))] [] _
  first | refine C_aload_n rfl rfl ?_ | refine C_aload_nN rfl rfl ?_
  refine C_getI (t0 := 5) rfl rfl (by decide) rfl rfl (Or.inl rfl) rfl (by assumption) ?_
  try refine C_topi (y := nI _) (by assumption) ?_
  refine C_table (pc' := 114) rfl (by decide) ?_
  refine C_bipush (y := nI 15) rfl (by decide) ?_
  exact C_iret rfl rfl (by first | trivial | exact Or.inl rfl | exact Or.inr rfl | assumption | exact b01) ⟨rfl, rfl⟩
theorem c_kb34 {a : Nat} (he : cE S 5 a = true) (ho : cI S 5 0 a = nI 34) : CalC X (d + 1) j_X7_kindsBelow [.ref (cA S 5 a)] S (fun v S' => v = some (.int (nI (kbl.getD 34 0))) ∧ S' = S) := by
  refine CalC_of (md := md_X7_kindsBelow) rfl (Nat.le_of_ble_eq_true rfl) ?_
  show WC X d t_X7_kindsBelow 7 (some .int) _ 0 [(0, .ref (cA S 5 a))] [] _
  first | refine C_aload_n rfl rfl ?_ | refine C_aload_nN rfl rfl ?_
  refine C_getI (t0 := 5) rfl rfl (by decide) rfl rfl (Or.inl rfl) rfl (by assumption) ?_
  try refine C_topi (y := nI _) (by assumption) ?_
  refine C_table (pc' := 108) rfl (by decide) ?_
  refine C_bipush (y := nI 15) rfl (by decide) ?_
  exact C_iret rfl rfl (by first | trivial | exact Or.inl rfl | exact Or.inr rfl | assumption | exact b01) ⟨rfl, rfl⟩
theorem c_wanted {a k b : Nat} (hk : k < 35) (he : cE S 5 a = true) (ho : cI S 5 0 a = nI k) (hb : cI S 5 2 a = nI b) : CalC X (d + 1) j_X7_wanted [.ref (cA S 5 a)] S (fun v S' => v = some (.int (nI (wnt k b))) ∧ S' = S) := by
  have : k = 0 ∨ k = 1 ∨ k = 2 ∨ k = 3 ∨ k = 4 ∨ k = 5 ∨ k = 6 ∨ k = 7 ∨ k = 8 ∨ k = 9 ∨ k = 10 ∨ k = 11 ∨ k = 12 ∨ k = 13 ∨ k = 14 ∨ k = 15 ∨ k = 16 ∨ k = 17 ∨ k = 18 ∨ k = 19 ∨ k = 20 ∨ k = 21 ∨ k = 22 ∨ k = 23 ∨ k = 24 ∨ k = 25 ∨ k = 26 ∨ k = 27 ∨ k = 28 ∨ k = 29 ∨ k = 30 ∨ k = 31 ∨ k = 32 ∨ k = 33 ∨ k = 34 := by omega
  rcases this with rfl | rfl | rfl | rfl | rfl | rfl | rfl | rfl | rfl | rfl | rfl | rfl | rfl | rfl | rfl | rfl | rfl | rfl | rfl | rfl | rfl | rfl | rfl | rfl | rfl | rfl | rfl | rfl | rfl | rfl | rfl | rfl | rfl | rfl | rfl
  · exact c_wt0 he ho hb
  · exact c_wt1 he ho hb
  · exact c_wt2 he ho hb
  · exact c_wt3 he ho hb
  · exact c_wt4 he ho hb
  · exact c_wt5 he ho hb
  · exact c_wt6 he ho hb
  · exact c_wt7 he ho hb
  · exact c_wt8 he ho hb
  · exact c_wt9 he ho hb
  · exact c_wt10 he ho hb
  · exact c_wt11 he ho hb
  · exact c_wt12 he ho hb
  · exact c_wt13 he ho hb
  · exact c_wt14 he ho hb
  · exact c_wt15 he ho hb
  · exact c_wt16 he ho hb
  · exact c_wt17 he ho hb
  · exact c_wt18 he ho hb
  · exact c_wt19 he ho hb
  · exact c_wt20 he ho hb
  · exact c_wt21 he ho hb
  · exact c_wt22 he ho hb
  · exact c_wt23 he ho hb
  · exact c_wt24 he ho hb
  · exact c_wt25 he ho hb
  · exact c_wt26 he ho hb
  · exact c_wt27 he ho hb
  · exact c_wt28 he ho hb
  · exact c_wt29 he ho hb
  · exact c_wt30 he ho hb
  · exact c_wt31 he ho hb
  · exact c_wt32 he ho hb
  · exact c_wt33 he ho hb
  · exact c_wt34 he ho hb
theorem c_kindsAbove {a k : Nat} (hk : k < 35) (he : cE S 5 a = true) (ho : cI S 5 0 a = nI k)  : CalC X (d + 1) j_X7_kindsAbove [.ref (cA S 5 a)] S (fun v S' => v = some (.int (nI (kal.getD k 0))) ∧ S' = S) := by
  have : k = 0 ∨ k = 1 ∨ k = 2 ∨ k = 3 ∨ k = 4 ∨ k = 5 ∨ k = 6 ∨ k = 7 ∨ k = 8 ∨ k = 9 ∨ k = 10 ∨ k = 11 ∨ k = 12 ∨ k = 13 ∨ k = 14 ∨ k = 15 ∨ k = 16 ∨ k = 17 ∨ k = 18 ∨ k = 19 ∨ k = 20 ∨ k = 21 ∨ k = 22 ∨ k = 23 ∨ k = 24 ∨ k = 25 ∨ k = 26 ∨ k = 27 ∨ k = 28 ∨ k = 29 ∨ k = 30 ∨ k = 31 ∨ k = 32 ∨ k = 33 ∨ k = 34 := by omega
  rcases this with rfl | rfl | rfl | rfl | rfl | rfl | rfl | rfl | rfl | rfl | rfl | rfl | rfl | rfl | rfl | rfl | rfl | rfl | rfl | rfl | rfl | rfl | rfl | rfl | rfl | rfl | rfl | rfl | rfl | rfl | rfl | rfl | rfl | rfl | rfl
  · exact c_ka0 he ho
  · exact c_ka1 he ho
  · exact c_ka2 he ho
  · exact c_ka3 he ho
  · exact c_ka4 he ho
  · exact c_ka5 he ho
  · exact c_ka6 he ho
  · exact c_ka7 he ho
  · exact c_ka8 he ho
  · exact c_ka9 he ho
  · exact c_ka10 he ho
  · exact c_ka11 he ho
  · exact c_ka12 he ho
  · exact c_ka13 he ho
  · exact c_ka14 he ho
  · exact c_ka15 he ho
  · exact c_ka16 he ho
  · exact c_ka17 he ho
  · exact c_ka18 he ho
  · exact c_ka19 he ho
  · exact c_ka20 he ho
  · exact c_ka21 he ho
  · exact c_ka22 he ho
  · exact c_ka23 he ho
  · exact c_ka24 he ho
  · exact c_ka25 he ho
  · exact c_ka26 he ho
  · exact c_ka27 he ho
  · exact c_ka28 he ho
  · exact c_ka29 he ho
  · exact c_ka30 he ho
  · exact c_ka31 he ho
  · exact c_ka32 he ho
  · exact c_ka33 he ho
  · exact c_ka34 he ho
theorem c_kindsBelow {a k : Nat} (hk : k < 35) (he : cE S 5 a = true) (ho : cI S 5 0 a = nI k)  : CalC X (d + 1) j_X7_kindsBelow [.ref (cA S 5 a)] S (fun v S' => v = some (.int (nI (kbl.getD k 0))) ∧ S' = S) := by
  have : k = 0 ∨ k = 1 ∨ k = 2 ∨ k = 3 ∨ k = 4 ∨ k = 5 ∨ k = 6 ∨ k = 7 ∨ k = 8 ∨ k = 9 ∨ k = 10 ∨ k = 11 ∨ k = 12 ∨ k = 13 ∨ k = 14 ∨ k = 15 ∨ k = 16 ∨ k = 17 ∨ k = 18 ∨ k = 19 ∨ k = 20 ∨ k = 21 ∨ k = 22 ∨ k = 23 ∨ k = 24 ∨ k = 25 ∨ k = 26 ∨ k = 27 ∨ k = 28 ∨ k = 29 ∨ k = 30 ∨ k = 31 ∨ k = 32 ∨ k = 33 ∨ k = 34 := by omega
  rcases this with rfl | rfl | rfl | rfl | rfl | rfl | rfl | rfl | rfl | rfl | rfl | rfl | rfl | rfl | rfl | rfl | rfl | rfl | rfl | rfl | rfl | rfl | rfl | rfl | rfl | rfl | rfl | rfl | rfl | rfl | rfl | rfl | rfl | rfl | rfl
  · exact c_kb0 he ho
  · exact c_kb1 he ho
  · exact c_kb2 he ho
  · exact c_kb3 he ho
  · exact c_kb4 he ho
  · exact c_kb5 he ho
  · exact c_kb6 he ho
  · exact c_kb7 he ho
  · exact c_kb8 he ho
  · exact c_kb9 he ho
  · exact c_kb10 he ho
  · exact c_kb11 he ho
  · exact c_kb12 he ho
  · exact c_kb13 he ho
  · exact c_kb14 he ho
  · exact c_kb15 he ho
  · exact c_kb16 he ho
  · exact c_kb17 he ho
  · exact c_kb18 he ho
  · exact c_kb19 he ho
  · exact c_kb20 he ho
  · exact c_kb21 he ho
  · exact c_kb22 he ho
  · exact c_kb23 he ho
  · exact c_kb24 he ho
  · exact c_kb25 he ho
  · exact c_kb26 he ho
  · exact c_kb27 he ho
  · exact c_kb28 he ho
  · exact c_kb29 he ho
  · exact c_kb30 he ho
  · exact c_kb31 he ho
  · exact c_kb32 he ho
  · exact c_kb33 he ho
  · exact c_kb34 he ho
end
