/-! ===== the class: valuesEnd, advance, thingOf, outward ===== -/
def vEnd (k b p q k0 k1 : Nat) : Nat := if p - q < wnt k b then 5 else if 0 < wnt k b ∧ amg (kal.getD k 0) k0 = false then 3 else if 1 < wnt k b ∧ amg (kbl.getD k 0) k1 = false then 3 else 0
theorem kal_in {k : Nat} (hk : k < 35) : (kal.getD k 0 = 2 ∨ kal.getD k 0 = 4 ∨ kal.getD k 0 = 5 ∨ kal.getD k 0 = 15) ∧ (kbl.getD k 0 = 2 ∨ kbl.getD k 0 = 4 ∨ kbl.getD k 0 = 5 ∨ kbl.getD k 0 = 15) := by
  have h : (List.range 35).all (fun k => decide ((kal.getD k 0 = 2 ∨ kal.getD k 0 = 4 ∨ kal.getD k 0 = 5 ∨ kal.getD k 0 = 15) ∧ (kbl.getD k 0 = 2 ∨ kbl.getD k 0 = 4 ∨ kbl.getD k 0 = 5 ∨ kbl.getD k 0 = 15))) = true := by decide
  exact of_decide_eq_true (List.all_eq_true.mp h k (List.mem_range.mpr hk))
theorem wnt_le {k b : Nat} (hk : k < 35) (hb : b ≤ 15) : wnt k b ≤ 16 := by
  unfold wnt
  split
  · omega
  · have h : (List.range 35).all (fun k => decide (wtl.getD k 0 ≤ 16)) = true := by decide
    exact of_decide_eq_true (List.all_eq_true.mp h k (List.mem_range.mpr hk))
section
variable {X : Ev} {d : Nat} {S : CS}
theorem c_valuesEnd {wn k b p q f k0 k1 : Nat} {x0 x1 : Int32} (hnp : xN X < 2 ^ 31) (hs : gSk S) (he : cE S 5 wn = true) (ho : cI S 5 0 wn = nI k) (hk : k < 35) (hb : cI S 5 2 wn = nI b) (hb2 : b ≤ 15) (hp : cI S 2 0 0 = nI p) (hp1 : p ≤ 1000) (ht : cP S 2 2 0 = some (cA S 7 f)) (hf : cE S 7 f = true) (hq : cI S 7 2 f = nI q) (hqp : q ≤ p) (hv0 : 0 < p → k0 < 4 ∧ cJ S 11 (p - 1 - 0) 0 = pkv (nI k0) x0) (hv1 : 1 < p → k1 < 4 ∧ cJ S 11 (p - 1 - 1) 0 = pkv (nI k1) x1) : CalC X (d + 3) j_X8_valuesEnd [.ref (cA S 0 0), .ref (cA S 5 wn)] S (fun v S' => v = some (.int (nI (vEnd k b p q k0 k1))) ∧ S' = S) := by
  have hwl := wnt_le hk hb2
  obtain ⟨hKA, hKB⟩ := kal_in hk
  obtain ⟨e0, e1, e2, e3, e4, e9, e10, e11, e12, e13, e14, e15, e5, e7, p00, p01, p02, p03, p12, p13, p14, p23, p24, p25, p26, p310, p311, p41, -⟩ := id hs
  unfold vEnd
  by_cases h1 : p - q < wnt k b
  · rw [if_pos h1]
    refine CalC_of (md := md_X8_valuesEnd) (d := d + 2) rfl (Nat.le_of_ble_eq_true rfl) ?_
    show WC X (d + 2) t_X8_valuesEnd 8 (some .int) _ 0 [(0, .ref (cA S 0 0)), (1, .ref (cA S 5 wn))] [] _
    first | refine C_aload_n rfl rfl ?_ | refine C_aload_nN rfl rfl ?_
    refine C_virt (t0 := 5) rfl rfl rfl rfl (by decide) rfl rfl (by assumption) rfl rfl (Nat.le_of_ble_eq_true rfl) (c_wanted hk he ho hb) ?_
    rintro _ S_ ⟨rfl, hS_⟩
    refine WC_eq hS_ ?_
    clear hS_ S_
    try refine C_topi (y := nI _) (by assumption) ?_
    refine C_istore_n (lv' := [(2, _), (0, _), (1, _)]) rfl rfl ?_
    first | refine C_aload_n rfl rfl ?_ | refine C_aload_nN rfl rfl ?_
    first | refine C_getR (t0 := 0) rfl rfl (by decide) rfl rfl (Or.inl ⟨_, rfl⟩) rfl (by assumption) (by assumption) ?_ | refine C_getN (t0 := 0) rfl rfl (by decide) rfl rfl (Or.inl ⟨_, rfl⟩) rfl (by assumption) (by assumption) ?_
    refine C_virt (t0 := 2) rfl rfl rfl rfl (by decide) rfl rfl (by assumption) rfl rfl (Nat.le_of_ble_eq_true rfl) (c_ofFrame hs hp ht hf hq hqp) ?_
    rintro _ S_ ⟨rfl, hS_⟩
    refine WC_eq hS_ ?_
    clear hS_ S_
    try refine C_topi (y := nI _) (by assumption) ?_
    refine C_iload_n rfl rfl ?_
    refine C_icF rfl (by first | assumption | exact icF (by decide) | exact ic_F (by omega) (by omega) (by simp only [icN, not_true_eq_false, not_false_eq_true] <;> omega) | exact ic_F0 (by omega) (by simp only [icN, not_true_eq_false, not_false_eq_true] <;> omega)) ?_
    refine C_iconst (y := nI 5) rfl (by decide) ?_
    exact C_iret rfl rfl (by first | trivial | exact Or.inl rfl | exact Or.inr rfl | assumption | exact b01) ⟨rfl, rfl⟩
  · rw [if_neg h1]
    have last : (1 < wnt k b → ¬ (amg (kbl.getD k 0) k1 = false) ∨ amg (kbl.getD k 0) k1 = false) := fun _ => (Classical.em _).symm
    have low : WC X (d + 2) t_X8_valuesEnd 8 (some .int) (fun v S' => v = some (.int (nI (if 1 < wnt k b ∧ amg (kbl.getD k 0) k1 = false then 3 else 0))) ∧ S' = S) 42 [(2, .int (nI (wnt k b))), (0, .ref (cA S 0 0)), (1, .ref (cA S 5 wn))] [] S := by
      by_cases h3 : 1 < wnt k b
      · obtain ⟨hk1, hj1⟩ := hv1 (by omega)
        cases ham : amg (kbl.getD k 0) k1 with
        | false =>
          rw [if_pos ⟨h3, rfl⟩]
          have hv : b2i (amg (kbl.getD k 0) k1) = nI 0 := by rw [ham]; rfl
          refine C_iload_n rfl rfl ?_
          refine C_iconst (y := nI 1) rfl (by decide) ?_
          refine C_icF rfl (by first | assumption | exact icF (by decide) | exact ic_F (by omega) (by omega) (by simp only [icN, not_true_eq_false, not_false_eq_true] <;> omega) | exact ic_F0 (by omega) (by simp only [icN, not_true_eq_false, not_false_eq_true] <;> omega)) ?_
          first | refine C_aload_n rfl rfl ?_ | refine C_aload_nN rfl rfl ?_
          first | refine C_getR (t0 := 0) rfl rfl (by decide) rfl rfl (Or.inl ⟨_, rfl⟩) rfl (by assumption) (by assumption) ?_ | refine C_getN (t0 := 0) rfl rfl (by decide) rfl rfl (Or.inl ⟨_, rfl⟩) rfl (by assumption) (by assumption) ?_
          refine C_iconst (y := nI 1) rfl (by decide) ?_
          refine C_virt (t0 := 2) rfl rfl rfl rfl (by decide) rfl rfl (by assumption) rfl rfl (Nat.le_of_ble_eq_true rfl) (c_fromAbove hnp hs hp hp1 (by omega)) ?_
          rintro _ S_ ⟨rfl, hS_⟩
          refine WC_eq hS_ ?_
          clear hS_ S_
          refine C_topl hj1 ?_
          first | refine C_aload_n rfl rfl ?_ | refine C_aload_nN rfl rfl ?_
          refine C_virt (t0 := 5) rfl rfl rfl rfl (by decide) rfl rfl (by assumption) rfl rfl (Nat.le_of_ble_eq_true rfl) (c_kindsBelow hk he ho) ?_
          rintro _ S_ ⟨rfl, hS_⟩
          refine WC_eq hS_ ?_
          clear hS_ S_
          try refine C_topi (y := nI _) (by assumption) ?_
          refine C_stat rfl rfl (by decide) rfl (Nat.le_of_ble_eq_true rfl) rfl rfl (Nat.le_of_ble_eq_true rfl) (c_isAmong hKB hk1) ?_
          rintro _ S_ ⟨rfl, hS_⟩
          refine WC_eq hS_ ?_
          clear hS_ S_
          try refine C_topi (y := nI _) (by assumption) ?_
          refine C_ifF rfl (by first | assumption | exact icF (by decide) | exact ic_F (by omega) (by omega) (by simp only [icN, not_true_eq_false, not_false_eq_true] <;> omega) | exact ic_F0 (by omega) (by simp only [icN, not_true_eq_false, not_false_eq_true] <;> omega)) ?_
          refine C_iconst (y := nI 3) rfl (by decide) ?_
          exact C_iret rfl rfl (by first | trivial | exact Or.inl rfl | exact Or.inr rfl | assumption | exact b01) ⟨rfl, rfl⟩
        | true =>
          rw [if_neg (fun r => by cases r.2)]
          have hv : b2i (amg (kbl.getD k 0) k1) = nI 1 := by rw [ham]; rfl
          refine C_iload_n rfl rfl ?_
          refine C_iconst (y := nI 1) rfl (by decide) ?_
          refine C_icF rfl (by first | assumption | exact icF (by decide) | exact ic_F (by omega) (by omega) (by simp only [icN, not_true_eq_false, not_false_eq_true] <;> omega) | exact ic_F0 (by omega) (by simp only [icN, not_true_eq_false, not_false_eq_true] <;> omega)) ?_
          first | refine C_aload_n rfl rfl ?_ | refine C_aload_nN rfl rfl ?_
          first | refine C_getR (t0 := 0) rfl rfl (by decide) rfl rfl (Or.inl ⟨_, rfl⟩) rfl (by assumption) (by assumption) ?_ | refine C_getN (t0 := 0) rfl rfl (by decide) rfl rfl (Or.inl ⟨_, rfl⟩) rfl (by assumption) (by assumption) ?_
          refine C_iconst (y := nI 1) rfl (by decide) ?_
          refine C_virt (t0 := 2) rfl rfl rfl rfl (by decide) rfl rfl (by assumption) rfl rfl (Nat.le_of_ble_eq_true rfl) (c_fromAbove hnp hs hp hp1 (by omega)) ?_
          rintro _ S_ ⟨rfl, hS_⟩
          refine WC_eq hS_ ?_
          clear hS_ S_
          refine C_topl hj1 ?_
          first | refine C_aload_n rfl rfl ?_ | refine C_aload_nN rfl rfl ?_
          refine C_virt (t0 := 5) rfl rfl rfl rfl (by decide) rfl rfl (by assumption) rfl rfl (Nat.le_of_ble_eq_true rfl) (c_kindsBelow hk he ho) ?_
          rintro _ S_ ⟨rfl, hS_⟩
          refine WC_eq hS_ ?_
          clear hS_ S_
          try refine C_topi (y := nI _) (by assumption) ?_
          refine C_stat rfl rfl (by decide) rfl (Nat.le_of_ble_eq_true rfl) rfl rfl (Nat.le_of_ble_eq_true rfl) (c_isAmong hKB hk1) ?_
          rintro _ S_ ⟨rfl, hS_⟩
          refine WC_eq hS_ ?_
          clear hS_ S_
          try refine C_topi (y := nI _) (by assumption) ?_
          refine C_ifT (pc' := 67) rfl rfl (by first | assumption | exact icT (by decide) | exact ic_T (by omega) (by omega) (by simp only [icN, not_true_eq_false, not_false_eq_true] <;> omega) | exact ic_T0 (by omega) (by simp only [icN, not_true_eq_false, not_false_eq_true] <;> omega)) ?_
          refine C_iconst (y := nI 0) rfl (by decide) ?_
          exact C_iret rfl rfl (by first | trivial | exact Or.inl rfl | exact Or.inr rfl | assumption | exact b01) ⟨rfl, rfl⟩
      · rw [if_neg (fun r => h3 r.1)]
        refine C_iload_n rfl rfl ?_
        refine C_iconst (y := nI 1) rfl (by decide) ?_
        refine C_icT (pc' := 67) rfl rfl (by first | assumption | exact icT (by decide) | exact ic_T (by omega) (by omega) (by simp only [icN, not_true_eq_false, not_false_eq_true] <;> omega) | exact ic_T0 (by omega) (by simp only [icN, not_true_eq_false, not_false_eq_true] <;> omega)) ?_
        refine C_iconst (y := nI 0) rfl (by decide) ?_
        exact C_iret rfl rfl (by first | trivial | exact Or.inl rfl | exact Or.inr rfl | assumption | exact b01) ⟨rfl, rfl⟩
    by_cases h2 : 0 < wnt k b
    · obtain ⟨hk0, hj0⟩ := hv0 (by omega)
      cases ham : amg (kal.getD k 0) k0 with
      | false =>
        rw [if_pos ⟨h2, rfl⟩]
        have hv : b2i (amg (kal.getD k 0) k0) = nI 0 := by rw [ham]; rfl
        refine CalC_of (md := md_X8_valuesEnd) (d := d + 2) rfl (Nat.le_of_ble_eq_true rfl) ?_
        show WC X (d + 2) t_X8_valuesEnd 8 (some .int) _ 0 [(0, .ref (cA S 0 0)), (1, .ref (cA S 5 wn))] [] _
        first | refine C_aload_n rfl rfl ?_ | refine C_aload_nN rfl rfl ?_
        refine C_virt (t0 := 5) rfl rfl rfl rfl (by decide) rfl rfl (by assumption) rfl rfl (Nat.le_of_ble_eq_true rfl) (c_wanted hk he ho hb) ?_
        rintro _ S_ ⟨rfl, hS_⟩
        refine WC_eq hS_ ?_
        clear hS_ S_
        try refine C_topi (y := nI _) (by assumption) ?_
        refine C_istore_n (lv' := [(2, _), (0, _), (1, _)]) rfl rfl ?_
        first | refine C_aload_n rfl rfl ?_ | refine C_aload_nN rfl rfl ?_
        first | refine C_getR (t0 := 0) rfl rfl (by decide) rfl rfl (Or.inl ⟨_, rfl⟩) rfl (by assumption) (by assumption) ?_ | refine C_getN (t0 := 0) rfl rfl (by decide) rfl rfl (Or.inl ⟨_, rfl⟩) rfl (by assumption) (by assumption) ?_
        refine C_virt (t0 := 2) rfl rfl rfl rfl (by decide) rfl rfl (by assumption) rfl rfl (Nat.le_of_ble_eq_true rfl) (c_ofFrame hs hp ht hf hq hqp) ?_
        rintro _ S_ ⟨rfl, hS_⟩
        refine WC_eq hS_ ?_
        clear hS_ S_
        try refine C_topi (y := nI _) (by assumption) ?_
        refine C_iload_n rfl rfl ?_
        refine C_icT (pc' := 18) rfl rfl (by first | assumption | exact icT (by decide) | exact ic_T (by omega) (by omega) (by simp only [icN, not_true_eq_false, not_false_eq_true] <;> omega) | exact ic_T0 (by omega) (by simp only [icN, not_true_eq_false, not_false_eq_true] <;> omega)) ?_
        refine C_iload_n rfl rfl ?_
        refine C_ifF rfl (by first | assumption | exact icF (by decide) | exact ic_F (by omega) (by omega) (by simp only [icN, not_true_eq_false, not_false_eq_true] <;> omega) | exact ic_F0 (by omega) (by simp only [icN, not_true_eq_false, not_false_eq_true] <;> omega)) ?_
        first | refine C_aload_n rfl rfl ?_ | refine C_aload_nN rfl rfl ?_
        first | refine C_getR (t0 := 0) rfl rfl (by decide) rfl rfl (Or.inl ⟨_, rfl⟩) rfl (by assumption) (by assumption) ?_ | refine C_getN (t0 := 0) rfl rfl (by decide) rfl rfl (Or.inl ⟨_, rfl⟩) rfl (by assumption) (by assumption) ?_
        refine C_iconst (y := nI 0) rfl (by decide) ?_
        refine C_virt (t0 := 2) rfl rfl rfl rfl (by decide) rfl rfl (by assumption) rfl rfl (Nat.le_of_ble_eq_true rfl) (c_fromAbove hnp hs hp hp1 (by omega)) ?_
        rintro _ S_ ⟨rfl, hS_⟩
        refine WC_eq hS_ ?_
        clear hS_ S_
        refine C_topl hj0 ?_
        first | refine C_aload_n rfl rfl ?_ | refine C_aload_nN rfl rfl ?_
        refine C_virt (t0 := 5) rfl rfl rfl rfl (by decide) rfl rfl (by assumption) rfl rfl (Nat.le_of_ble_eq_true rfl) (c_kindsAbove hk he ho) ?_
        rintro _ S_ ⟨rfl, hS_⟩
        refine WC_eq hS_ ?_
        clear hS_ S_
        try refine C_topi (y := nI _) (by assumption) ?_
        refine C_stat rfl rfl (by decide) rfl (Nat.le_of_ble_eq_true rfl) rfl rfl (Nat.le_of_ble_eq_true rfl) (c_isAmong hKA hk0) ?_
        rintro _ S_ ⟨rfl, hS_⟩
        refine WC_eq hS_ ?_
        clear hS_ S_
        try refine C_topi (y := nI _) (by assumption) ?_
        refine C_ifF rfl (by first | assumption | exact icF (by decide) | exact ic_F (by omega) (by omega) (by simp only [icN, not_true_eq_false, not_false_eq_true] <;> omega) | exact ic_F0 (by omega) (by simp only [icN, not_true_eq_false, not_false_eq_true] <;> omega)) ?_
        refine C_iconst (y := nI 3) rfl (by decide) ?_
        exact C_iret rfl rfl (by first | trivial | exact Or.inl rfl | exact Or.inr rfl | assumption | exact b01) ⟨rfl, rfl⟩
      | true =>
        rw [if_neg (fun r => by cases r.2)]
        have hv : b2i (amg (kal.getD k 0) k0) = nI 1 := by rw [ham]; rfl
        refine CalC_of (md := md_X8_valuesEnd) (d := d + 2) rfl (Nat.le_of_ble_eq_true rfl) ?_
        show WC X (d + 2) t_X8_valuesEnd 8 (some .int) _ 0 [(0, .ref (cA S 0 0)), (1, .ref (cA S 5 wn))] [] _
        first | refine C_aload_n rfl rfl ?_ | refine C_aload_nN rfl rfl ?_
        refine C_virt (t0 := 5) rfl rfl rfl rfl (by decide) rfl rfl (by assumption) rfl rfl (Nat.le_of_ble_eq_true rfl) (c_wanted hk he ho hb) ?_
        rintro _ S_ ⟨rfl, hS_⟩
        refine WC_eq hS_ ?_
        clear hS_ S_
        try refine C_topi (y := nI _) (by assumption) ?_
        refine C_istore_n (lv' := [(2, _), (0, _), (1, _)]) rfl rfl ?_
        first | refine C_aload_n rfl rfl ?_ | refine C_aload_nN rfl rfl ?_
        first | refine C_getR (t0 := 0) rfl rfl (by decide) rfl rfl (Or.inl ⟨_, rfl⟩) rfl (by assumption) (by assumption) ?_ | refine C_getN (t0 := 0) rfl rfl (by decide) rfl rfl (Or.inl ⟨_, rfl⟩) rfl (by assumption) (by assumption) ?_
        refine C_virt (t0 := 2) rfl rfl rfl rfl (by decide) rfl rfl (by assumption) rfl rfl (Nat.le_of_ble_eq_true rfl) (c_ofFrame hs hp ht hf hq hqp) ?_
        rintro _ S_ ⟨rfl, hS_⟩
        refine WC_eq hS_ ?_
        clear hS_ S_
        try refine C_topi (y := nI _) (by assumption) ?_
        refine C_iload_n rfl rfl ?_
        refine C_icT (pc' := 18) rfl rfl (by first | assumption | exact icT (by decide) | exact ic_T (by omega) (by omega) (by simp only [icN, not_true_eq_false, not_false_eq_true] <;> omega) | exact ic_T0 (by omega) (by simp only [icN, not_true_eq_false, not_false_eq_true] <;> omega)) ?_
        refine C_iload_n rfl rfl ?_
        refine C_ifF rfl (by first | assumption | exact icF (by decide) | exact ic_F (by omega) (by omega) (by simp only [icN, not_true_eq_false, not_false_eq_true] <;> omega) | exact ic_F0 (by omega) (by simp only [icN, not_true_eq_false, not_false_eq_true] <;> omega)) ?_
        first | refine C_aload_n rfl rfl ?_ | refine C_aload_nN rfl rfl ?_
        first | refine C_getR (t0 := 0) rfl rfl (by decide) rfl rfl (Or.inl ⟨_, rfl⟩) rfl (by assumption) (by assumption) ?_ | refine C_getN (t0 := 0) rfl rfl (by decide) rfl rfl (Or.inl ⟨_, rfl⟩) rfl (by assumption) (by assumption) ?_
        refine C_iconst (y := nI 0) rfl (by decide) ?_
        refine C_virt (t0 := 2) rfl rfl rfl rfl (by decide) rfl rfl (by assumption) rfl rfl (Nat.le_of_ble_eq_true rfl) (c_fromAbove hnp hs hp hp1 (by omega)) ?_
        rintro _ S_ ⟨rfl, hS_⟩
        refine WC_eq hS_ ?_
        clear hS_ S_
        refine C_topl hj0 ?_
        first | refine C_aload_n rfl rfl ?_ | refine C_aload_nN rfl rfl ?_
        refine C_virt (t0 := 5) rfl rfl rfl rfl (by decide) rfl rfl (by assumption) rfl rfl (Nat.le_of_ble_eq_true rfl) (c_kindsAbove hk he ho) ?_
        rintro _ S_ ⟨rfl, hS_⟩
        refine WC_eq hS_ ?_
        clear hS_ S_
        try refine C_topi (y := nI _) (by assumption) ?_
        refine C_stat rfl rfl (by decide) rfl (Nat.le_of_ble_eq_true rfl) rfl rfl (Nat.le_of_ble_eq_true rfl) (c_isAmong hKA hk0) ?_
        rintro _ S_ ⟨rfl, hS_⟩
        refine WC_eq hS_ ?_
        clear hS_ S_
        try refine C_topi (y := nI _) (by assumption) ?_
        refine C_ifT (pc' := 42) rfl rfl (by first | assumption | exact icT (by decide) | exact ic_T (by omega) (by omega) (by simp only [icN, not_true_eq_false, not_false_eq_true] <;> omega) | exact ic_T0 (by omega) (by simp only [icN, not_true_eq_false, not_false_eq_true] <;> omega)) ?_
        exact low
    · rw [if_neg (fun r => h2 r.1)]
      refine CalC_of (md := md_X8_valuesEnd) (d := d + 2) rfl (Nat.le_of_ble_eq_true rfl) ?_
      show WC X (d + 2) t_X8_valuesEnd 8 (some .int) _ 0 [(0, .ref (cA S 0 0)), (1, .ref (cA S 5 wn))] [] _
      first | refine C_aload_n rfl rfl ?_ | refine C_aload_nN rfl rfl ?_
      refine C_virt (t0 := 5) rfl rfl rfl rfl (by decide) rfl rfl (by assumption) rfl rfl (Nat.le_of_ble_eq_true rfl) (c_wanted hk he ho hb) ?_
      rintro _ S_ ⟨rfl, hS_⟩
      refine WC_eq hS_ ?_
      clear hS_ S_
      try refine C_topi (y := nI _) (by assumption) ?_
      refine C_istore_n (lv' := [(2, _), (0, _), (1, _)]) rfl rfl ?_
      first | refine C_aload_n rfl rfl ?_ | refine C_aload_nN rfl rfl ?_
      first | refine C_getR (t0 := 0) rfl rfl (by decide) rfl rfl (Or.inl ⟨_, rfl⟩) rfl (by assumption) (by assumption) ?_ | refine C_getN (t0 := 0) rfl rfl (by decide) rfl rfl (Or.inl ⟨_, rfl⟩) rfl (by assumption) (by assumption) ?_
      refine C_virt (t0 := 2) rfl rfl rfl rfl (by decide) rfl rfl (by assumption) rfl rfl (Nat.le_of_ble_eq_true rfl) (c_ofFrame hs hp ht hf hq hqp) ?_
      rintro _ S_ ⟨rfl, hS_⟩
      refine WC_eq hS_ ?_
      clear hS_ S_
      try refine C_topi (y := nI _) (by assumption) ?_
      refine C_iload_n rfl rfl ?_
      refine C_icT (pc' := 18) rfl rfl (by first | assumption | exact icT (by decide) | exact ic_T (by omega) (by omega) (by simp only [icN, not_true_eq_false, not_false_eq_true] <;> omega) | exact ic_T0 (by omega) (by simp only [icN, not_true_eq_false, not_false_eq_true] <;> omega)) ?_
      refine C_iload_n rfl rfl ?_
      refine C_ifT (pc' := 42) rfl rfl (by first | assumption | exact icT (by decide) | exact ic_T (by omega) (by omega) (by simp only [icN, not_true_eq_false, not_false_eq_true] <;> omega) | exact ic_T0 (by omega) (by simp only [icN, not_true_eq_false, not_false_eq_true] <;> omega)) ?_
      exact low
/-- the end of a step: y is what the operation came to -/
def finC (S : CS) (s y : Nat) : CS := if y = 0 then setI (setI (setI S 0 8 0 (nI (s + 1))) 0 6 0 (cI S 0 7 0)) 0 5 0 (nI 0) else if y = 1 then setI (setI S 0 8 0 (nI (s + 1))) 0 5 0 (nI 1) else setI S 0 5 0 (nI y)
theorem c_advE {S2 : CS} {s y A0 : Nat} {B : Nat} {Q : CS → Prop} (hA : cA S2 0 0 = A0) (he : cE S2 0 0 = true) (hs : cI S2 0 8 0 = nI s) (hy : y < 100) (hQ : Q (finC S2 s y)) : WC X d t_X8_advance 8 none (fun v S' => v = none ∧ Q S') 48 [(2, .int (nI y)), (1, .ref B), (0, .ref A0)] [] S2 := by
  subst hA
  unfold finC at hQ
  by_cases h0 : y = 0
  · subst h0
    rw [if_pos rfl] at hQ
    refine C_iload_n rfl rfl ?_
    refine C_ifT (pc' := 57) rfl rfl (by first | assumption | exact icT (by decide) | exact ic_T (by omega) (by omega) (by simp only [icN, not_true_eq_false, not_false_eq_true] <;> omega) | exact ic_T0 (by omega) (by simp only [icN, not_true_eq_false, not_false_eq_true] <;> omega)) ?_
    first | refine C_aload_n rfl rfl ?_ | refine C_aload_nN rfl rfl ?_
    refine C_dup rfl rfl ?_
    refine C_getI (t0 := 0) rfl rfl (by decide) rfl rfl (Or.inl rfl) rfl (by assumption) ?_
    try refine C_topi (y := nI _) (by assumption) ?_
    refine C_iconst (y := nI 1) rfl (by decide) ?_
    first | refine C_iaddN rfl ?_ | refine C_iadd rfl ?_
    refine C_putI (t0 := 0) rfl rfl (by decide) rfl rfl (Or.inl rfl) rfl (by assumption) ?_
    refine C_iload_n rfl rfl ?_
    refine C_ifF rfl (by first | assumption | exact icF (by decide) | exact ic_F (by omega) (by omega) (by simp only [icN, not_true_eq_false, not_false_eq_true] <;> omega) | exact ic_F0 (by omega) (by simp only [icN, not_true_eq_false, not_false_eq_true] <;> omega)) ?_
    first | refine C_aload_n rfl rfl ?_ | refine C_aload_nN rfl rfl ?_
    first | refine C_aload_n rfl rfl ?_ | refine C_aload_nN rfl rfl ?_
    refine C_getI (t0 := 0) rfl rfl (by decide) rfl rfl (Or.inl rfl) rfl (by assumption) ?_
    try refine C_topi (y := nI _) (by assumption) ?_
    refine C_putI (t0 := 0) rfl rfl (by decide) rfl rfl (Or.inl rfl) rfl (by assumption) ?_
    first | refine C_aload_n rfl rfl ?_ | refine C_aload_nN rfl rfl ?_
    refine C_iload_n rfl rfl ?_
    refine C_putI (t0 := 0) rfl rfl (by decide) rfl rfl (Or.inl rfl) rfl (by assumption) ?_
    exact C_ret rfl rfl ⟨rfl, hQ⟩
  · rw [if_neg h0] at hQ
    by_cases h1 : y = 1
    · subst h1
      rw [if_pos rfl] at hQ
      refine C_iload_n rfl rfl ?_
      refine C_ifF rfl (by first | assumption | exact icF (by decide) | exact ic_F (by omega) (by omega) (by simp only [icN, not_true_eq_false, not_false_eq_true] <;> omega) | exact ic_F0 (by omega) (by simp only [icN, not_true_eq_false, not_false_eq_true] <;> omega)) ?_
      refine C_iload_n rfl rfl ?_
      refine C_iconst (y := nI 1) rfl (by decide) ?_
      refine C_icF rfl (by first | assumption | exact icF (by decide) | exact ic_F (by omega) (by omega) (by simp only [icN, not_true_eq_false, not_false_eq_true] <;> omega) | exact ic_F0 (by omega) (by simp only [icN, not_true_eq_false, not_false_eq_true] <;> omega)) ?_
      first | refine C_aload_n rfl rfl ?_ | refine C_aload_nN rfl rfl ?_
      refine C_dup rfl rfl ?_
      refine C_getI (t0 := 0) rfl rfl (by decide) rfl rfl (Or.inl rfl) rfl (by assumption) ?_
      try refine C_topi (y := nI _) (by assumption) ?_
      refine C_iconst (y := nI 1) rfl (by decide) ?_
      first | refine C_iaddN rfl ?_ | refine C_iadd rfl ?_
      refine C_putI (t0 := 0) rfl rfl (by decide) rfl rfl (Or.inl rfl) rfl (by assumption) ?_
      refine C_iload_n rfl rfl ?_
      refine C_ifT (pc' := 79) rfl rfl (by first | assumption | exact icT (by decide) | exact ic_T (by omega) (by omega) (by simp only [icN, not_true_eq_false, not_false_eq_true] <;> omega) | exact ic_T0 (by omega) (by simp only [icN, not_true_eq_false, not_false_eq_true] <;> omega)) ?_
      first | refine C_aload_n rfl rfl ?_ | refine C_aload_nN rfl rfl ?_
      refine C_iload_n rfl rfl ?_
      refine C_putI (t0 := 0) rfl rfl (by decide) rfl rfl (Or.inl rfl) rfl (by assumption) ?_
      exact C_ret rfl rfl ⟨rfl, hQ⟩
    · rw [if_neg h1] at hQ
      refine C_iload_n rfl rfl ?_
      refine C_ifF rfl (by first | assumption | exact icF (by decide) | exact ic_F (by omega) (by omega) (by simp only [icN, not_true_eq_false, not_false_eq_true] <;> omega) | exact ic_F0 (by omega) (by simp only [icN, not_true_eq_false, not_false_eq_true] <;> omega)) ?_
      refine C_iload_n rfl rfl ?_
      refine C_iconst (y := nI 1) rfl (by decide) ?_
      refine C_icT (pc' := 67) rfl rfl (by first | assumption | exact icT (by decide) | exact ic_T (by omega) (by omega) (by simp only [icN, not_true_eq_false, not_false_eq_true] <;> omega) | exact ic_T0 (by omega) (by simp only [icN, not_true_eq_false, not_false_eq_true] <;> omega)) ?_
      refine C_iload_n rfl rfl ?_
      refine C_ifT (pc' := 79) rfl rfl (by first | assumption | exact icT (by decide) | exact ic_T (by omega) (by omega) (by simp only [icN, not_true_eq_false, not_false_eq_true] <;> omega) | exact ic_T0 (by omega) (by simp only [icN, not_true_eq_false, not_false_eq_true] <;> omega)) ?_
      first | refine C_aload_n rfl rfl ?_ | refine C_aload_nN rfl rfl ?_
      refine C_iload_n rfl rfl ?_
      refine C_putI (t0 := 0) rfl rfl (by decide) rfl rfl (Or.inl rfl) rfl (by assumption) ?_
      exact C_ret rfl rfl ⟨rfl, hQ⟩
/-- what roomEnd and perform must come to -/
def roomQ (X : Ev) (d A0 B s : Nat) (Q : CS → Prop) (v : Option Value) (S1 : CS) : Prop := ∃ x, x < 100 ∧ v = some (.int (nI x)) ∧ ((¬ x = 0 ∧ cA S1 0 0 = A0 ∧ cE S1 0 0 = true ∧ cI S1 0 8 0 = nI s ∧ Q (finC S1 s x)) ∨ (x = 0 ∧ cA S1 0 0 = A0 ∧ cE S1 0 0 = true ∧ cE S1 5 B = true ∧ CalC X d j_X8_perform [.ref A0, .ref (cA S1 5 B)] S1 (fun v S2 => ∃ y, y < 100 ∧ v = some (.int (nI y)) ∧ cA S2 0 0 = A0 ∧ cE S2 0 0 = true ∧ cI S2 0 8 0 = nI s ∧ Q (finC S2 s y))))
theorem c_advance {a s e wn : Nat} {Q : CS → Prop} (hk : gSk S) (ha : cI S 0 6 0 = nI a) (ha2 : a ≤ 2000) (hs : cI S 0 8 0 = nI s) (he : e < 100) (hw : CalC X (d + 1) j_X0_wordAt [.ref (cA S 1 0), .int (nI a)] S (fun v S' => v = some (.ref (cA S 5 wn)) ∧ S' = S))
    (hve : CalC X (d + 1) j_X8_valuesEnd [.ref (cA S 0 0), .ref (cA S 5 wn)] (setI S 0 7 0 (nI (a + 1))) (fun v S' => v = some (.int (nI e)) ∧ S' = setI S 0 7 0 (nI (a + 1))))
    (hq : (¬ e = 0 ∧ Q (finC (setI S 0 7 0 (nI (a + 1))) s e)) ∨ (e = 0 ∧ CalC X (d + 1) j_X8_roomEnd [.ref (cA S 0 0), .ref (cA S 5 wn)] (setI S 0 7 0 (nI (a + 1))) (fun v S1 => cA S1 5 wn = cA S 5 wn ∧ roomQ X (d + 1) (cA S 0 0) wn s Q v S1))) : CalC X (d + 2) j_X8_advance [.ref (cA S 0 0)] S (fun v S' => v = none ∧ Q S') := by
  obtain ⟨e0, e1, e2, e3, e4, e9, e10, e11, e12, e13, e14, e15, e5, e7, p00, p01, p02, p03, p12, p13, p14, p23, p24, p25, p26, p310, p311, p41, -⟩ := id hk
  refine CalC_of (md := md_X8_advance) (d := d + 1) rfl (Nat.le_of_ble_eq_true rfl) ?_
  show WC X (d + 1) t_X8_advance 8 none _ 0 [(0, .ref (cA S 0 0))] [] _
  rcases hq with ⟨hne, hq⟩ | ⟨rfl, hq⟩
  · first | refine C_aload_n rfl rfl ?_ | refine C_aload_nN rfl rfl ?_
    first | refine C_getR (t0 := 0) rfl rfl (by decide) rfl rfl (Or.inl ⟨_, rfl⟩) rfl (by assumption) (by assumption) ?_ | refine C_getN (t0 := 0) rfl rfl (by decide) rfl rfl (Or.inl ⟨_, rfl⟩) rfl (by assumption) (by assumption) ?_
    first | refine C_aload_n rfl rfl ?_ | refine C_aload_nN rfl rfl ?_
    refine C_getI (t0 := 0) rfl rfl (by decide) rfl rfl (Or.inl rfl) rfl (by assumption) ?_
    try refine C_topi (y := nI _) (by assumption) ?_
    refine C_virt (t0 := 1) rfl rfl rfl rfl (by decide) rfl rfl (by assumption) rfl rfl (Nat.le_of_ble_eq_true rfl) (hw) ?_
    rintro _ S_ ⟨rfl, hS_⟩
    refine WC_eq hS_ ?_
    clear hS_ S_
    first | refine C_astore_n (lv' := [(1, _), (0, _)]) rfl rfl ?_ | refine C_astore_nN (lv' := [(1, _), (0, _)]) rfl rfl ?_
    first | refine C_aload_n rfl rfl ?_ | refine C_aload_nN rfl rfl ?_
    first | refine C_aload_n rfl rfl ?_ | refine C_aload_nN rfl rfl ?_
    refine C_getI (t0 := 0) rfl rfl (by decide) rfl rfl (Or.inl rfl) rfl (by assumption) ?_
    try refine C_topi (y := nI _) (by assumption) ?_
    refine C_iconst (y := nI 1) rfl (by decide) ?_
    first | refine C_iaddN rfl ?_ | refine C_iadd rfl ?_
    refine C_putI (t0 := 0) rfl rfl (by decide) rfl rfl (Or.inl rfl) rfl (by assumption) ?_
    first | refine C_aload_n rfl rfl ?_ | refine C_aload_nN rfl rfl ?_
    first | refine C_aload_n rfl rfl ?_ | refine C_aload_nN rfl rfl ?_
    refine C_virt (t0 := 0) rfl rfl rfl rfl (by decide) rfl rfl (by assumption) rfl rfl (Nat.le_of_ble_eq_true rfl) (hve) ?_
    rintro _ S_ ⟨rfl, hS_⟩
    refine WC_eq hS_ ?_
    clear hS_ S_
    try refine C_topi (y := nI _) (by assumption) ?_
    refine C_istore_n (lv' := [(2, _), (1, _), (0, _)]) rfl rfl ?_
    refine C_iload_n rfl rfl ?_
    refine C_ifT (pc' := 38) rfl rfl (by first | assumption | exact icT (by decide) | exact ic_T (by omega) (by omega) (by simp only [icN, not_true_eq_false, not_false_eq_true] <;> omega) | exact ic_T0 (by omega) (by simp only [icN, not_true_eq_false, not_false_eq_true] <;> omega)) ?_
    refine C_iload_n rfl rfl ?_
    refine C_ifT (pc' := 48) rfl rfl (by first | assumption | exact icT (by decide) | exact ic_T (by omega) (by omega) (by simp only [icN, not_true_eq_false, not_false_eq_true] <;> omega) | exact ic_T0 (by omega) (by simp only [icN, not_true_eq_false, not_false_eq_true] <;> omega)) ?_
    exact c_advE rfl e0 hs he hq
  · first | refine C_aload_n rfl rfl ?_ | refine C_aload_nN rfl rfl ?_
    first | refine C_getR (t0 := 0) rfl rfl (by decide) rfl rfl (Or.inl ⟨_, rfl⟩) rfl (by assumption) (by assumption) ?_ | refine C_getN (t0 := 0) rfl rfl (by decide) rfl rfl (Or.inl ⟨_, rfl⟩) rfl (by assumption) (by assumption) ?_
    first | refine C_aload_n rfl rfl ?_ | refine C_aload_nN rfl rfl ?_
    refine C_getI (t0 := 0) rfl rfl (by decide) rfl rfl (Or.inl rfl) rfl (by assumption) ?_
    try refine C_topi (y := nI _) (by assumption) ?_
    refine C_virt (t0 := 1) rfl rfl rfl rfl (by decide) rfl rfl (by assumption) rfl rfl (Nat.le_of_ble_eq_true rfl) (hw) ?_
    rintro _ S_ ⟨rfl, hS_⟩
    refine WC_eq hS_ ?_
    clear hS_ S_
    first | refine C_astore_n (lv' := [(1, _), (0, _)]) rfl rfl ?_ | refine C_astore_nN (lv' := [(1, _), (0, _)]) rfl rfl ?_
    first | refine C_aload_n rfl rfl ?_ | refine C_aload_nN rfl rfl ?_
    first | refine C_aload_n rfl rfl ?_ | refine C_aload_nN rfl rfl ?_
    refine C_getI (t0 := 0) rfl rfl (by decide) rfl rfl (Or.inl rfl) rfl (by assumption) ?_
    try refine C_topi (y := nI _) (by assumption) ?_
    refine C_iconst (y := nI 1) rfl (by decide) ?_
    first | refine C_iaddN rfl ?_ | refine C_iadd rfl ?_
    refine C_putI (t0 := 0) rfl rfl (by decide) rfl rfl (Or.inl rfl) rfl (by assumption) ?_
    first | refine C_aload_n rfl rfl ?_ | refine C_aload_nN rfl rfl ?_
    first | refine C_aload_n rfl rfl ?_ | refine C_aload_nN rfl rfl ?_
    refine C_virt (t0 := 0) rfl rfl rfl rfl (by decide) rfl rfl (by assumption) rfl rfl (Nat.le_of_ble_eq_true rfl) (hve) ?_
    rintro _ S_ ⟨rfl, hS_⟩
    refine WC_eq hS_ ?_
    clear hS_ S_
    try refine C_topi (y := nI _) (by assumption) ?_
    refine C_istore_n (lv' := [(2, _), (1, _), (0, _)]) rfl rfl ?_
    refine C_iload_n rfl rfl ?_
    refine C_ifF rfl (by first | assumption | exact icF (by decide) | exact ic_F (by omega) (by omega) (by simp only [icN, not_true_eq_false, not_false_eq_true] <;> omega) | exact ic_F0 (by omega) (by simp only [icN, not_true_eq_false, not_false_eq_true] <;> omega)) ?_
    first | refine C_aload_n rfl rfl ?_ | refine C_aload_nN rfl rfl ?_
    first | refine C_aload_n rfl rfl ?_ | refine C_aload_nN rfl rfl ?_
    refine C_virt (t0 := 0) rfl rfl rfl rfl (by decide) rfl rfl (by assumption) rfl rfl (Nat.le_of_ble_eq_true rfl) hq ?_
    rintro v S1 ⟨hB, x, hx, rfl, ⟨hne, hA, hE, hs1, hQ⟩ | ⟨rfl, hA, hE, h5, hp⟩⟩
    · show WC X (d + 1) t_X8_advance 8 none _ 37 [(2, .int (nI 0)), (1, .ref (cA S 5 wn)), (0, .ref (cA S 0 0))] [.int (nI x)] S1
      refine C_istore_n (lv' := [(2, _), (1, _), (0, _)]) rfl rfl ?_
      refine C_iload_n rfl rfl ?_
      refine C_ifT (pc' := 48) rfl rfl (by first | assumption | exact icT (by decide) | exact ic_T (by omega) (by omega) (by simp only [icN, not_true_eq_false, not_false_eq_true] <;> omega) | exact ic_T0 (by omega) (by simp only [icN, not_true_eq_false, not_false_eq_true] <;> omega)) ?_
      exact c_advE hA hE hs1 hx hQ
    · show WC X (d + 1) t_X8_advance 8 none _ 37 [(2, .int (nI 0)), (1, .ref (cA S 5 wn)), (0, .ref (cA S 0 0))] [.int (nI 0)] S1
      rw [← hB, ← hA]
      rw [← hA] at hp
      refine C_istore_n (lv' := [(2, _), (1, _), (0, _)]) rfl rfl ?_
      refine C_iload_n rfl rfl ?_
      refine C_ifF rfl (by first | assumption | exact icF (by decide) | exact ic_F (by omega) (by omega) (by simp only [icN, not_true_eq_false, not_false_eq_true] <;> omega) | exact ic_F0 (by omega) (by simp only [icN, not_true_eq_false, not_false_eq_true] <;> omega)) ?_
      first | refine C_aload_n rfl rfl ?_ | refine C_aload_nN rfl rfl ?_
      first | refine C_aload_n rfl rfl ?_ | refine C_aload_nN rfl rfl ?_
      refine C_virt (t0 := 0) rfl rfl rfl rfl (by decide) rfl rfl (by assumption) rfl rfl (Nat.le_of_ble_eq_true rfl) hp ?_
      rintro v S2 ⟨y, hy, rfl, hA2, hE2, hs2, hQ⟩
      show WC X (d + 1) t_X8_advance 8 none _ 47 [(2, .int (nI 0)), (1, .ref (cA S1 5 wn)), (0, .ref (cA S1 0 0))] [.int (nI y)] S2
      refine C_istore_n (lv' := [(2, _), (1, _), (0, _)]) rfl rfl ?_
      exact c_advE hA2 hE2 hs2 hy hQ
theorem c_thingN {k : Nat} {x : Int32} (hk : k < 4) (hk2 : k ≠ 2) : CalC X (d + 1) j_X2_thingOf [.ref (cA S 3 0), .long (pkv (nI k) x)] S (fun v S' => v = some .null ∧ S' = S) := by
  have hu := pkv_ush hk x
  have hc : ¬ lg_cmp (Int64.ofNat k) 2 = 0 := by
    have : k = 0 ∨ k = 1 ∨ k = 3 := by omega
    rcases this with rfl | rfl | rfl <;> decide
  refine CalC_of (md := md_X2_thingOf) rfl (Nat.le_of_ble_eq_true rfl) ?_
  show WC X d t_X2_thingOf 2 (some (.object "ProtoMachine$Thing")) _ 0 [(0, .ref (cA S 3 0)), (1, .long (pkv (nI k) x))] [] _
  refine C_lload_n rfl rfl ?_
  refine C_l2i rfl ?_
  refine C_istore_n (lv' := [(3, _), (0, _), (1, _)]) rfl rfl ?_
  refine C_lload_n rfl rfl ?_
  refine C_bipush (y := nI 32) rfl (by decide) ?_
  refine C_lushr rfl rfl ?_
  refine C_topl hu ?_
  refine C_ldc2_w rfl rfl ?_
  refine C_lcmp rfl ?_
  refine C_ifT (pc' := 35) rfl rfl (hc) ?_
  refine C_null rfl ?_
  first | exact C_aret rfl rfl ⟨rfl, rfl⟩ | exact C_aretN rfl rfl ⟨rfl, rfl⟩
theorem c_thingR {u j : Nat} (hnp : xN X < 2 ^ 31) (hs : gSk S) (hu : cI S 3 12 0 = nI u) (hu2 : u ≤ xN X) (hj : j < u) (hp : cP S 14 j 0 = some (cA S 8 j)) : CalC X (d + 1) j_X2_thingOf [.ref (cA S 3 0), .long (pkv (nI 2) (nI j))] S (fun v S' => v = some (.ref (cA S 8 j)) ∧ S' = S) := by
  have hsh := pkv_ush (k := 2) (by decide) (nI j)
  have hn := pkv_num (k := 2) (by decide) (nI j)
  have hc : ¬ ¬ lg_cmp (Int64.ofNat 2) 2 = 0 := by decide
  have hb : j < lnt (xN X) 14 := by show j < xN X; omega
  obtain ⟨e0, e1, e2, e3, e4, e9, e10, e11, e12, e13, e14, e15, e5, e7, p00, p01, p02, p03, p12, p13, p14, p23, p24, p25, p26, p310, p311, p41, -⟩ := id hs
  refine CalC_of (md := md_X2_thingOf) rfl (Nat.le_of_ble_eq_true rfl) ?_
  show WC X d t_X2_thingOf 2 (some (.object "ProtoMachine$Thing")) _ 0 [(0, .ref (cA S 3 0)), (1, .long (pkv (nI 2) (nI j)))] [] _
  refine C_lload_n rfl rfl ?_
  refine C_l2i rfl ?_
  refine C_topi hn ?_
  refine C_istore_n (lv' := [(3, _), (0, _), (1, _)]) rfl rfl ?_
  refine C_lload_n rfl rfl ?_
  refine C_bipush (y := nI 32) rfl (by decide) ?_
  refine C_lushr rfl rfl ?_
  refine C_topl hsh ?_
  refine C_ldc2_w rfl rfl ?_
  refine C_lcmp rfl ?_
  refine C_ifF rfl (hc) ?_
  refine C_iload_n rfl rfl ?_
  refine C_ifF rfl (by first | assumption | exact icF (by decide) | exact ic_F (by omega) (by omega) (by simp only [icN, not_true_eq_false, not_false_eq_true] <;> omega) | exact ic_F0 (by omega) (by simp only [icN, not_true_eq_false, not_false_eq_true] <;> omega)) ?_
  refine C_iload_n rfl rfl ?_
  first | refine C_aload_n rfl rfl ?_ | refine C_aload_nN rfl rfl ?_
  refine C_getI (t0 := 3) rfl rfl (by decide) rfl rfl (Or.inl rfl) rfl (by assumption) ?_
  try refine C_topi (y := nI _) (by assumption) ?_
  refine C_icF rfl (by first | assumption | exact icF (by decide) | exact ic_F (by omega) (by omega) (by simp only [icN, not_true_eq_false, not_false_eq_true] <;> omega) | exact ic_F0 (by omega) (by simp only [icN, not_true_eq_false, not_false_eq_true] <;> omega)) ?_
  first | refine C_aload_n rfl rfl ?_ | refine C_aload_nN rfl rfl ?_
  first | refine C_getR (t0 := 3) rfl rfl (by decide) rfl rfl (Or.inr ⟨_, rfl⟩) rfl (by assumption) (by assumption) ?_ | refine C_getN (t0 := 3) rfl rfl (by decide) rfl rfl (Or.inr ⟨_, rfl⟩) rfl (by assumption) (by assumption) ?_
  refine C_iload_n rfl rfl ?_
  first | refine C_aaldR hnp rfl rfl (by decide) rfl (by assumption) rfl (by first | assumption | exact (show _ < 4 from by omega) | exact (show _ < 2000 from by omega)) (by assumption) ?_ | refine C_aaldN hnp rfl rfl (by decide) rfl (by assumption) rfl (by first | assumption | exact (show _ < 4 from by omega) | exact (show _ < 2000 from by omega)) (by assumption) ?_
  refine C_goto (pc' := 36) rfl rfl ?_
  first | exact C_aret rfl rfl ⟨rfl, rfl⟩ | exact C_aretN rfl rfl ⟨rfl, rfl⟩
theorem c_outN {k : Nat} {x : Int32} (hs : gSk S) (hk : k < 4) (hk2 : k ≠ 2) : CalC X (d + 2) j_X2_outward [.ref (cA S 3 0), .long (pkv (nI k) x)] S (fun v S' => v = some (.long (pkv (nI k) x)) ∧ S' = S) := by
  obtain ⟨e0, e1, e2, e3, e4, e9, e10, e11, e12, e13, e14, e15, e5, e7, p00, p01, p02, p03, p12, p13, p14, p23, p24, p25, p26, p310, p311, p41, -⟩ := id hs
  refine CalC_of (md := md_X2_outward) (d := d + 1) rfl (Nat.le_of_ble_eq_true rfl) ?_
  show WC X (d + 1) t_X2_outward 2 (some .long) _ 0 [(0, .ref (cA S 3 0)), (1, .long (pkv (nI k) x))] [] _
  first | refine C_aload_n rfl rfl ?_ | refine C_aload_nN rfl rfl ?_
  refine C_lload_n rfl rfl ?_
  refine C_virt (t0 := 3) rfl rfl rfl rfl (by decide) rfl rfl (by assumption) rfl rfl (Nat.le_of_ble_eq_true rfl) (c_thingN hk hk2) ?_
  rintro _ S_ ⟨rfl, hS_⟩
  refine WC_eq hS_ ?_
  clear hS_ S_
  first | refine C_astore_n (lv' := [(3, _), (0, _), (1, _)]) rfl rfl ?_ | refine C_astore_nN (lv' := [(3, _), (0, _), (1, _)]) rfl rfl ?_
  first | refine C_aload_n rfl rfl ?_ | refine C_aload_nN rfl rfl ?_
  refine C_ifnonnullF rfl ?_
  refine C_lload_n rfl rfl ?_
  refine C_goto (pc' := 22) rfl rfl ?_
  exact C_lret rfl rfl ⟨rfl, rfl⟩
theorem c_outR {u j : Nat} (hnp : xN X < 2 ^ 31) (hs : gSk S) (hu : cI S 3 12 0 = nI u) (hu2 : u ≤ xN X) (hj : j < u) (hp : cP S 14 j 0 = some (cA S 8 j)) (he : cE S 8 j = true) : CalC X (d + 2) j_X2_outward [.ref (cA S 3 0), .long (pkv (nI 2) (nI j))] S (fun v S' => v = some (.long (pkv (nI 2) (cI S 8 3 j))) ∧ S' = S) := by
  obtain ⟨e0, e1, e2, e3, e4, e9, e10, e11, e12, e13, e14, e15, e5, e7, p00, p01, p02, p03, p12, p13, p14, p23, p24, p25, p26, p310, p311, p41, -⟩ := id hs
  refine CalC_of (md := md_X2_outward) (d := d + 1) rfl (Nat.le_of_ble_eq_true rfl) ?_
  show WC X (d + 1) t_X2_outward 2 (some .long) _ 0 [(0, .ref (cA S 3 0)), (1, .long (pkv (nI 2) (nI j)))] [] _
  first | refine C_aload_n rfl rfl ?_ | refine C_aload_nN rfl rfl ?_
  refine C_lload_n rfl rfl ?_
  refine C_virt (t0 := 3) rfl rfl rfl rfl (by decide) rfl rfl (by assumption) rfl rfl (Nat.le_of_ble_eq_true rfl) (c_thingR hnp hs hu hu2 hj hp) ?_
  rintro _ S_ ⟨rfl, hS_⟩
  refine WC_eq hS_ ?_
  clear hS_ S_
  first | refine C_astore_n (lv' := [(3, _), (0, _), (1, _)]) rfl rfl ?_ | refine C_astore_nN (lv' := [(3, _), (0, _), (1, _)]) rfl rfl ?_
  first | refine C_aload_n rfl rfl ?_ | refine C_aload_nN rfl rfl ?_
  refine C_ifnonnullT (pc' := 14) rfl rfl ?_
  refine C_iconst (y := nI 2) rfl (by decide) ?_
  first | refine C_aload_n rfl rfl ?_ | refine C_aload_nN rfl rfl ?_
  refine C_getI (t0 := 8) rfl rfl (by decide) rfl rfl (Or.inl rfl) rfl (by assumption) ?_
  try refine C_topi (y := nI _) (by assumption) ?_
  refine C_stat rfl rfl (by decide) rfl (Nat.le_of_ble_eq_true rfl) rfl rfl (Nat.le_of_ble_eq_true rfl) (c_pack) ?_
  rintro _ S_ ⟨rfl, hS_⟩
  refine WC_eq hS_ ?_
  clear hS_ S_
  exact C_lret rfl rfl ⟨rfl, rfl⟩
end
