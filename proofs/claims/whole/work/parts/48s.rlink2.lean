/-! ===== the reference: faultOf, link ===== -/
def flt (M : Mem) (i : Nat) : Nat := if nI 0 ≤ M 2 i ∧ M 2 i ≤ nI 34 then (if fA (M 2 i).toNatClampNeg (M 3 i) = true ∧ fB (M 2 i).toNatClampNeg (M 3 i) (M 4 i) = true then (if M 2 i = nI 33 ∧ ¬ M 6 (M 3 i).toNatClampNeg = nI (i + 1) then 3 else if nmL (M 2 i).toNatClampNeg = true ∧ M 6 (M 3 i).toNatClampNeg < 0 then 4 else 0) else 2) else 1
theorem b2i_0 {b : Bool} (h : ¬ b = true) : b2i b = nI 0 := by
  cases b
  · rfl
  · exact absurd rfl h
theorem b2i_1 {b : Bool} (h : b = true) : b2i b = nI 1 := by
  subst h
  rfl
theorem fA_lab {k : Nat} {x : Int32} (hk : k = 33 ∨ nmL k = true) (h : fA k x = true) : ∃ l, l < 200 ∧ x = nI l := by
  have hk' : k = 33 ∨ k = 13 ∨ k = 14 ∨ k = 28 := by
    rcases hk with h | h
    · exact Or.inl h
    · unfold nmL at h
      exact Or.inr (of_decide_eq_true h)
  have e : fA k x = decide (nI 0 ≤ x ∧ x ≤ nI 199) := by
    rcases hk' with rfl | rfl | rfl | rfl <;> rfl
  rw [e] at h
  have h := of_decide_eq_true h
  obtain ⟨j, hj, rfl⟩ := nI_of (x := x) (Int32.not_lt.mpr h.1)
  exact ⟨j, by have := (nI_leI hj (by decide)).mp h.2; omega, rfl⟩
theorem i32_rng {x : Int32} {n : Nat} (hn : n < 2 ^ 31) (h : nI 0 ≤ x ∧ x ≤ nI n) : ∃ k, k ≤ n ∧ x = nI k := by
  obtain ⟨j, hj, rfl⟩ := nI_of (x := x) (Int32.not_lt.mpr h.1)
  exact ⟨j, (nI_leI hj hn).mp h.2, rfl⟩
theorem r_faultOf {d : Nat} {M : Mem} {i : Nat} (hi : i < 2000) : CalR (d + 3) j_X9_faultOf [.ref 0, .int (nI i)] M (some (.int (nI (flt M i)))) M := by
  by_cases hr : nI 0 ≤ M 2 i ∧ M 2 i ≤ nI 34
  · have hin : CalR (d + 2) j_X9_isIn [.int (M 2 i), .int (nI 0), .int (nI 34)] M (some (.int 1)) M := by
      have := r_isIn (d := d + 1) (M := M) (v := M 2 i) (lo := nI 0) (hi := nI 34)
      rw [if_pos hr] at this
      exact this
    obtain ⟨k, hk, ho⟩ := i32_rng (by decide) hr
    rw [ho] at hin
    have hcl : (M 2 i).toNatClampNeg = k := by rw [ho, nI_clamp (by omega)]
    have e1 : flt M i = (if fA k (M 3 i) = true ∧ fB k (M 3 i) (M 4 i) = true then (if M 2 i = nI 33 ∧ ¬ M 6 (M 3 i).toNatClampNeg = nI (i + 1) then 3 else if nmL k = true ∧ M 6 (M 3 i).toNatClampNeg < 0 then 4 else 0) else 2) := by
      unfold flt
      rw [if_pos hr, hcl]
    rw [e1]
    by_cases hA : fA k (M 3 i) = true
    · have vA := b2i_1 hA
      by_cases hB : fB k (M 3 i) (M 4 i) = true
      · have vB := b2i_1 hB
        rw [if_pos ⟨hA, hB⟩]
        by_cases h33 : k = 33
        · subst h33
          obtain ⟨l, hl, hx⟩ := fA_lab (Or.inl rfl) hA
          have hc2 : (M 3 i).toNatClampNeg = l := by rw [hx, nI_clamp (by omega)]
          have hnm : ¬ (nmL 33 = true ∧ M 6 l < 0) := fun q => absurd q.1 (by decide)
          have vN : b2i (nmL 33) = nI 0 := rfl
          rw [hc2]
          rw [hx] at vA vB
          by_cases h6 : M 6 l = nI (i + 1)
          · rw [if_neg (fun q => q.2 h6), if_neg hnm]
            refine CalR_of (md := md_X9_faultOf) (d := d + 2) rfl (Nat.le_of_ble_eq_true rfl) ?_
            show WR (CalR (d + 2)) t_X9_faultOf 9 (some .int) _ 0 [(0, .ref 0), (1, .int (nI i))] [] _
            refine R_aload_n rfl rfl ?_
            refine R_getA rfl rfl (Or.inl rfl) ?_
            refine R_iload_n rfl rfl ?_
            refine R_iald rfl rfl rfl (show _ < 2000 from by omega) ?_
            try refine R_top (y := nI _) (by assumption) ?_
            refine R_iconst (y := nI 0) rfl (by decide) ?_
            refine R_bipush (y := nI 34) rfl (by decide) ?_
            refine R_stat rfl rfl rfl (Nat.le_of_ble_eq_true rfl) rfl rfl (Nat.le_of_ble_eq_true rfl) (fun _ q => by cases q) (hin) ?_
            try refine R_top (y := nI _) (by assumption) ?_
            refine R_ifT (pc' := 17) rfl rfl (by first | assumption | exact icT (by decide) | exact ic_T (by omega) (by omega) (by simp only [icN, not_true_eq_false, not_false_eq_true] <;> omega) | exact ic_T0 (by omega) (by simp only [icN, not_true_eq_false, not_false_eq_true] <;> omega)) ?_
            refine R_aload_n rfl rfl ?_
            refine R_getA rfl rfl (Or.inl rfl) ?_
            refine R_iload_n rfl rfl ?_
            refine R_iald rfl rfl rfl (show _ < 2000 from by omega) ?_
            try refine R_top (y := nI _) (by assumption) ?_
            refine R_aload_n rfl rfl ?_
            refine R_getA rfl rfl (Or.inl rfl) ?_
            refine R_iload_n rfl rfl ?_
            refine R_iald rfl rfl rfl (show _ < 2000 from by omega) ?_
            try refine R_top (y := nI _) (by assumption) ?_
            refine R_stat rfl rfl rfl (Nat.le_of_ble_eq_true rfl) rfl rfl (Nat.le_of_ble_eq_true rfl) (fun _ q => by cases q) (r_aFits (by omega)) ?_
            try refine R_top (y := nI _) (by assumption) ?_
            refine R_ifF rfl (by first | assumption | exact icF (by decide) | exact ic_F (by omega) (by omega) (by simp only [icN, not_true_eq_false, not_false_eq_true] <;> omega) | exact ic_F0 (by omega) (by simp only [icN, not_true_eq_false, not_false_eq_true] <;> omega)) ?_
            refine R_aload_n rfl rfl ?_
            refine R_getA rfl rfl (Or.inl rfl) ?_
            refine R_iload_n rfl rfl ?_
            refine R_iald rfl rfl rfl (show _ < 2000 from by omega) ?_
            try refine R_top (y := nI _) (by assumption) ?_
            refine R_aload_n rfl rfl ?_
            refine R_getA rfl rfl (Or.inl rfl) ?_
            refine R_iload_n rfl rfl ?_
            refine R_iald rfl rfl rfl (show _ < 2000 from by omega) ?_
            try refine R_top (y := nI _) (by assumption) ?_
            refine R_aload_n rfl rfl ?_
            refine R_getA rfl rfl (Or.inl rfl) ?_
            refine R_iload_n rfl rfl ?_
            refine R_iald rfl rfl rfl (show _ < 2000 from by omega) ?_
            try refine R_top (y := nI _) (by assumption) ?_
            refine R_stat rfl rfl rfl (Nat.le_of_ble_eq_true rfl) rfl rfl (Nat.le_of_ble_eq_true rfl) (fun _ q => by cases q) (r_bFits (by omega)) ?_
            try refine R_top (y := nI _) (by assumption) ?_
            refine R_ifT (pc' := 61) rfl rfl (by first | assumption | exact icT (by decide) | exact ic_T (by omega) (by omega) (by simp only [icN, not_true_eq_false, not_false_eq_true] <;> omega) | exact ic_T0 (by omega) (by simp only [icN, not_true_eq_false, not_false_eq_true] <;> omega)) ?_
            refine R_aload_n rfl rfl ?_
            refine R_getA rfl rfl (Or.inl rfl) ?_
            refine R_iload_n rfl rfl ?_
            refine R_iald rfl rfl rfl (show _ < 2000 from by omega) ?_
            try refine R_top (y := nI _) (by assumption) ?_
            refine R_bipush (y := nI 33) rfl (by decide) ?_
            refine R_icF rfl (by first | assumption | exact icF (by decide) | exact ic_F (by omega) (by omega) (by simp only [icN, not_true_eq_false, not_false_eq_true] <;> omega) | exact ic_F0 (by omega) (by simp only [icN, not_true_eq_false, not_false_eq_true] <;> omega)) ?_
            refine R_aload_n rfl rfl ?_
            refine R_getA rfl rfl (Or.inl rfl) ?_
            refine R_aload_n rfl rfl ?_
            refine R_getA rfl rfl (Or.inl rfl) ?_
            refine R_iload_n rfl rfl ?_
            refine R_iald rfl rfl rfl (show _ < 2000 from by omega) ?_
            try refine R_top (y := nI _) (by assumption) ?_
            refine R_iald rfl rfl rfl (show _ < 200 from by omega) ?_
            try refine R_top (y := nI _) (by assumption) ?_
            refine R_iload_n rfl rfl ?_
            refine R_iconst (y := nI 1) rfl (by decide) ?_
            first | refine R_iaddN rfl ?_ | refine R_iadd rfl ?_
            refine R_icT (pc' := 91) rfl rfl (by first | assumption | exact icT (by decide) | exact ic_T (by omega) (by omega) (by simp only [icN, not_true_eq_false, not_false_eq_true] <;> omega) | exact ic_T0 (by omega) (by simp only [icN, not_true_eq_false, not_false_eq_true] <;> omega)) ?_
            refine R_aload_n rfl rfl ?_
            refine R_getA rfl rfl (Or.inl rfl) ?_
            refine R_iload_n rfl rfl ?_
            refine R_iald rfl rfl rfl (show _ < 2000 from by omega) ?_
            try refine R_top (y := nI _) (by assumption) ?_
            refine R_stat rfl rfl rfl (Nat.le_of_ble_eq_true rfl) rfl rfl (Nat.le_of_ble_eq_true rfl) (fun _ q => by cases q) (r_namesL (by omega)) ?_
            try refine R_top (y := nI _) (by assumption) ?_
            refine R_ifT (pc' := 121) rfl rfl (by first | assumption | exact icT (by decide) | exact ic_T (by omega) (by omega) (by simp only [icN, not_true_eq_false, not_false_eq_true] <;> omega) | exact ic_T0 (by omega) (by simp only [icN, not_true_eq_false, not_false_eq_true] <;> omega)) ?_
            refine R_iconst (y := nI 0) rfl (by decide) ?_
            exact R_iret rfl rfl (by first | trivial | exact Or.inl rfl | exact Or.inr rfl | assumption | exact b01) ⟨rfl, rfl⟩
          · rw [if_pos ⟨ho, h6⟩]
            refine CalR_of (md := md_X9_faultOf) (d := d + 2) rfl (Nat.le_of_ble_eq_true rfl) ?_
            show WR (CalR (d + 2)) t_X9_faultOf 9 (some .int) _ 0 [(0, .ref 0), (1, .int (nI i))] [] _
            refine R_aload_n rfl rfl ?_
            refine R_getA rfl rfl (Or.inl rfl) ?_
            refine R_iload_n rfl rfl ?_
            refine R_iald rfl rfl rfl (show _ < 2000 from by omega) ?_
            try refine R_top (y := nI _) (by assumption) ?_
            refine R_iconst (y := nI 0) rfl (by decide) ?_
            refine R_bipush (y := nI 34) rfl (by decide) ?_
            refine R_stat rfl rfl rfl (Nat.le_of_ble_eq_true rfl) rfl rfl (Nat.le_of_ble_eq_true rfl) (fun _ q => by cases q) (hin) ?_
            try refine R_top (y := nI _) (by assumption) ?_
            refine R_ifT (pc' := 17) rfl rfl (by first | assumption | exact icT (by decide) | exact ic_T (by omega) (by omega) (by simp only [icN, not_true_eq_false, not_false_eq_true] <;> omega) | exact ic_T0 (by omega) (by simp only [icN, not_true_eq_false, not_false_eq_true] <;> omega)) ?_
            refine R_aload_n rfl rfl ?_
            refine R_getA rfl rfl (Or.inl rfl) ?_
            refine R_iload_n rfl rfl ?_
            refine R_iald rfl rfl rfl (show _ < 2000 from by omega) ?_
            try refine R_top (y := nI _) (by assumption) ?_
            refine R_aload_n rfl rfl ?_
            refine R_getA rfl rfl (Or.inl rfl) ?_
            refine R_iload_n rfl rfl ?_
            refine R_iald rfl rfl rfl (show _ < 2000 from by omega) ?_
            try refine R_top (y := nI _) (by assumption) ?_
            refine R_stat rfl rfl rfl (Nat.le_of_ble_eq_true rfl) rfl rfl (Nat.le_of_ble_eq_true rfl) (fun _ q => by cases q) (r_aFits (by omega)) ?_
            try refine R_top (y := nI _) (by assumption) ?_
            refine R_ifF rfl (by first | assumption | exact icF (by decide) | exact ic_F (by omega) (by omega) (by simp only [icN, not_true_eq_false, not_false_eq_true] <;> omega) | exact ic_F0 (by omega) (by simp only [icN, not_true_eq_false, not_false_eq_true] <;> omega)) ?_
            refine R_aload_n rfl rfl ?_
            refine R_getA rfl rfl (Or.inl rfl) ?_
            refine R_iload_n rfl rfl ?_
            refine R_iald rfl rfl rfl (show _ < 2000 from by omega) ?_
            try refine R_top (y := nI _) (by assumption) ?_
            refine R_aload_n rfl rfl ?_
            refine R_getA rfl rfl (Or.inl rfl) ?_
            refine R_iload_n rfl rfl ?_
            refine R_iald rfl rfl rfl (show _ < 2000 from by omega) ?_
            try refine R_top (y := nI _) (by assumption) ?_
            refine R_aload_n rfl rfl ?_
            refine R_getA rfl rfl (Or.inl rfl) ?_
            refine R_iload_n rfl rfl ?_
            refine R_iald rfl rfl rfl (show _ < 2000 from by omega) ?_
            try refine R_top (y := nI _) (by assumption) ?_
            refine R_stat rfl rfl rfl (Nat.le_of_ble_eq_true rfl) rfl rfl (Nat.le_of_ble_eq_true rfl) (fun _ q => by cases q) (r_bFits (by omega)) ?_
            try refine R_top (y := nI _) (by assumption) ?_
            refine R_ifT (pc' := 61) rfl rfl (by first | assumption | exact icT (by decide) | exact ic_T (by omega) (by omega) (by simp only [icN, not_true_eq_false, not_false_eq_true] <;> omega) | exact ic_T0 (by omega) (by simp only [icN, not_true_eq_false, not_false_eq_true] <;> omega)) ?_
            refine R_aload_n rfl rfl ?_
            refine R_getA rfl rfl (Or.inl rfl) ?_
            refine R_iload_n rfl rfl ?_
            refine R_iald rfl rfl rfl (show _ < 2000 from by omega) ?_
            try refine R_top (y := nI _) (by assumption) ?_
            refine R_bipush (y := nI 33) rfl (by decide) ?_
            refine R_icF rfl (by first | assumption | exact icF (by decide) | exact ic_F (by omega) (by omega) (by simp only [icN, not_true_eq_false, not_false_eq_true] <;> omega) | exact ic_F0 (by omega) (by simp only [icN, not_true_eq_false, not_false_eq_true] <;> omega)) ?_
            refine R_aload_n rfl rfl ?_
            refine R_getA rfl rfl (Or.inl rfl) ?_
            refine R_aload_n rfl rfl ?_
            refine R_getA rfl rfl (Or.inl rfl) ?_
            refine R_iload_n rfl rfl ?_
            refine R_iald rfl rfl rfl (show _ < 2000 from by omega) ?_
            try refine R_top (y := nI _) (by assumption) ?_
            refine R_iald rfl rfl rfl (show _ < 200 from by omega) ?_
            try refine R_top (y := nI _) (by assumption) ?_
            refine R_iload_n rfl rfl ?_
            refine R_iconst (y := nI 1) rfl (by decide) ?_
            first | refine R_iaddN rfl ?_ | refine R_iadd rfl ?_
            refine R_icF rfl (h6) ?_
            refine R_iconst (y := nI 3) rfl (by decide) ?_
            exact R_iret rfl rfl (by first | trivial | exact Or.inl rfl | exact Or.inr rfl | assumption | exact b01) ⟨rfl, rfl⟩
        · rw [if_neg (fun q => h33 ((nI_eq (by omega) (by decide)).mp (ho.symm.trans q.1)))]
          by_cases hN : nmL k = true
          · obtain ⟨l, hl, hx⟩ := fA_lab (Or.inr hN) hA
            have vN := b2i_1 hN
            have hc2 : (M 3 i).toNatClampNeg = l := by rw [hx, nI_clamp (by omega)]
            rw [hc2]
            rw [hx] at vA vB
            by_cases h6 : M 6 l < 0
            · have h6' : ¬ 0 ≤ M 6 l := Int32.not_le.mpr h6
              rw [if_pos ⟨hN, h6⟩]
              refine CalR_of (md := md_X9_faultOf) (d := d + 2) rfl (Nat.le_of_ble_eq_true rfl) ?_
              show WR (CalR (d + 2)) t_X9_faultOf 9 (some .int) _ 0 [(0, .ref 0), (1, .int (nI i))] [] _
              refine R_aload_n rfl rfl ?_
              refine R_getA rfl rfl (Or.inl rfl) ?_
              refine R_iload_n rfl rfl ?_
              refine R_iald rfl rfl rfl (show _ < 2000 from by omega) ?_
              try refine R_top (y := nI _) (by assumption) ?_
              refine R_iconst (y := nI 0) rfl (by decide) ?_
              refine R_bipush (y := nI 34) rfl (by decide) ?_
              refine R_stat rfl rfl rfl (Nat.le_of_ble_eq_true rfl) rfl rfl (Nat.le_of_ble_eq_true rfl) (fun _ q => by cases q) (hin) ?_
              try refine R_top (y := nI _) (by assumption) ?_
              refine R_ifT (pc' := 17) rfl rfl (by first | assumption | exact icT (by decide) | exact ic_T (by omega) (by omega) (by simp only [icN, not_true_eq_false, not_false_eq_true] <;> omega) | exact ic_T0 (by omega) (by simp only [icN, not_true_eq_false, not_false_eq_true] <;> omega)) ?_
              refine R_aload_n rfl rfl ?_
              refine R_getA rfl rfl (Or.inl rfl) ?_
              refine R_iload_n rfl rfl ?_
              refine R_iald rfl rfl rfl (show _ < 2000 from by omega) ?_
              try refine R_top (y := nI _) (by assumption) ?_
              refine R_aload_n rfl rfl ?_
              refine R_getA rfl rfl (Or.inl rfl) ?_
              refine R_iload_n rfl rfl ?_
              refine R_iald rfl rfl rfl (show _ < 2000 from by omega) ?_
              try refine R_top (y := nI _) (by assumption) ?_
              refine R_stat rfl rfl rfl (Nat.le_of_ble_eq_true rfl) rfl rfl (Nat.le_of_ble_eq_true rfl) (fun _ q => by cases q) (r_aFits (by omega)) ?_
              try refine R_top (y := nI _) (by assumption) ?_
              refine R_ifF rfl (by first | assumption | exact icF (by decide) | exact ic_F (by omega) (by omega) (by simp only [icN, not_true_eq_false, not_false_eq_true] <;> omega) | exact ic_F0 (by omega) (by simp only [icN, not_true_eq_false, not_false_eq_true] <;> omega)) ?_
              refine R_aload_n rfl rfl ?_
              refine R_getA rfl rfl (Or.inl rfl) ?_
              refine R_iload_n rfl rfl ?_
              refine R_iald rfl rfl rfl (show _ < 2000 from by omega) ?_
              try refine R_top (y := nI _) (by assumption) ?_
              refine R_aload_n rfl rfl ?_
              refine R_getA rfl rfl (Or.inl rfl) ?_
              refine R_iload_n rfl rfl ?_
              refine R_iald rfl rfl rfl (show _ < 2000 from by omega) ?_
              try refine R_top (y := nI _) (by assumption) ?_
              refine R_aload_n rfl rfl ?_
              refine R_getA rfl rfl (Or.inl rfl) ?_
              refine R_iload_n rfl rfl ?_
              refine R_iald rfl rfl rfl (show _ < 2000 from by omega) ?_
              try refine R_top (y := nI _) (by assumption) ?_
              refine R_stat rfl rfl rfl (Nat.le_of_ble_eq_true rfl) rfl rfl (Nat.le_of_ble_eq_true rfl) (fun _ q => by cases q) (r_bFits (by omega)) ?_
              try refine R_top (y := nI _) (by assumption) ?_
              refine R_ifT (pc' := 61) rfl rfl (by first | assumption | exact icT (by decide) | exact ic_T (by omega) (by omega) (by simp only [icN, not_true_eq_false, not_false_eq_true] <;> omega) | exact ic_T0 (by omega) (by simp only [icN, not_true_eq_false, not_false_eq_true] <;> omega)) ?_
              refine R_aload_n rfl rfl ?_
              refine R_getA rfl rfl (Or.inl rfl) ?_
              refine R_iload_n rfl rfl ?_
              refine R_iald rfl rfl rfl (show _ < 2000 from by omega) ?_
              try refine R_top (y := nI _) (by assumption) ?_
              refine R_bipush (y := nI 33) rfl (by decide) ?_
              refine R_icT (pc' := 91) rfl rfl (by first | assumption | exact icT (by decide) | exact ic_T (by omega) (by omega) (by simp only [icN, not_true_eq_false, not_false_eq_true] <;> omega) | exact ic_T0 (by omega) (by simp only [icN, not_true_eq_false, not_false_eq_true] <;> omega)) ?_
              refine R_aload_n rfl rfl ?_
              refine R_getA rfl rfl (Or.inl rfl) ?_
              refine R_iload_n rfl rfl ?_
              refine R_iald rfl rfl rfl (show _ < 2000 from by omega) ?_
              try refine R_top (y := nI _) (by assumption) ?_
              refine R_stat rfl rfl rfl (Nat.le_of_ble_eq_true rfl) rfl rfl (Nat.le_of_ble_eq_true rfl) (fun _ q => by cases q) (r_namesL (by omega)) ?_
              try refine R_top (y := nI _) (by assumption) ?_
              refine R_ifF rfl (by first | assumption | exact icF (by decide) | exact ic_F (by omega) (by omega) (by simp only [icN, not_true_eq_false, not_false_eq_true] <;> omega) | exact ic_F0 (by omega) (by simp only [icN, not_true_eq_false, not_false_eq_true] <;> omega)) ?_
              refine R_aload_n rfl rfl ?_
              refine R_getA rfl rfl (Or.inl rfl) ?_
              refine R_aload_n rfl rfl ?_
              refine R_getA rfl rfl (Or.inl rfl) ?_
              refine R_iload_n rfl rfl ?_
              refine R_iald rfl rfl rfl (show _ < 2000 from by omega) ?_
              try refine R_top (y := nI _) (by assumption) ?_
              refine R_iald rfl rfl rfl (show _ < 200 from by omega) ?_
              try refine R_top (y := nI _) (by assumption) ?_
              refine R_ifF rfl (h6') ?_
              refine R_iconst (y := nI 4) rfl (by decide) ?_
              refine R_goto (pc' := 122) rfl rfl ?_
              exact R_iret rfl rfl (by first | trivial | exact Or.inl rfl | exact Or.inr rfl | assumption | exact b01) ⟨rfl, rfl⟩
            · have h6' : 0 ≤ M 6 l := Int32.not_lt.mp h6
              rw [if_neg (fun q => h6 q.2)]
              refine CalR_of (md := md_X9_faultOf) (d := d + 2) rfl (Nat.le_of_ble_eq_true rfl) ?_
              show WR (CalR (d + 2)) t_X9_faultOf 9 (some .int) _ 0 [(0, .ref 0), (1, .int (nI i))] [] _
              refine R_aload_n rfl rfl ?_
              refine R_getA rfl rfl (Or.inl rfl) ?_
              refine R_iload_n rfl rfl ?_
              refine R_iald rfl rfl rfl (show _ < 2000 from by omega) ?_
              try refine R_top (y := nI _) (by assumption) ?_
              refine R_iconst (y := nI 0) rfl (by decide) ?_
              refine R_bipush (y := nI 34) rfl (by decide) ?_
              refine R_stat rfl rfl rfl (Nat.le_of_ble_eq_true rfl) rfl rfl (Nat.le_of_ble_eq_true rfl) (fun _ q => by cases q) (hin) ?_
              try refine R_top (y := nI _) (by assumption) ?_
              refine R_ifT (pc' := 17) rfl rfl (by first | assumption | exact icT (by decide) | exact ic_T (by omega) (by omega) (by simp only [icN, not_true_eq_false, not_false_eq_true] <;> omega) | exact ic_T0 (by omega) (by simp only [icN, not_true_eq_false, not_false_eq_true] <;> omega)) ?_
              refine R_aload_n rfl rfl ?_
              refine R_getA rfl rfl (Or.inl rfl) ?_
              refine R_iload_n rfl rfl ?_
              refine R_iald rfl rfl rfl (show _ < 2000 from by omega) ?_
              try refine R_top (y := nI _) (by assumption) ?_
              refine R_aload_n rfl rfl ?_
              refine R_getA rfl rfl (Or.inl rfl) ?_
              refine R_iload_n rfl rfl ?_
              refine R_iald rfl rfl rfl (show _ < 2000 from by omega) ?_
              try refine R_top (y := nI _) (by assumption) ?_
              refine R_stat rfl rfl rfl (Nat.le_of_ble_eq_true rfl) rfl rfl (Nat.le_of_ble_eq_true rfl) (fun _ q => by cases q) (r_aFits (by omega)) ?_
              try refine R_top (y := nI _) (by assumption) ?_
              refine R_ifF rfl (by first | assumption | exact icF (by decide) | exact ic_F (by omega) (by omega) (by simp only [icN, not_true_eq_false, not_false_eq_true] <;> omega) | exact ic_F0 (by omega) (by simp only [icN, not_true_eq_false, not_false_eq_true] <;> omega)) ?_
              refine R_aload_n rfl rfl ?_
              refine R_getA rfl rfl (Or.inl rfl) ?_
              refine R_iload_n rfl rfl ?_
              refine R_iald rfl rfl rfl (show _ < 2000 from by omega) ?_
              try refine R_top (y := nI _) (by assumption) ?_
              refine R_aload_n rfl rfl ?_
              refine R_getA rfl rfl (Or.inl rfl) ?_
              refine R_iload_n rfl rfl ?_
              refine R_iald rfl rfl rfl (show _ < 2000 from by omega) ?_
              try refine R_top (y := nI _) (by assumption) ?_
              refine R_aload_n rfl rfl ?_
              refine R_getA rfl rfl (Or.inl rfl) ?_
              refine R_iload_n rfl rfl ?_
              refine R_iald rfl rfl rfl (show _ < 2000 from by omega) ?_
              try refine R_top (y := nI _) (by assumption) ?_
              refine R_stat rfl rfl rfl (Nat.le_of_ble_eq_true rfl) rfl rfl (Nat.le_of_ble_eq_true rfl) (fun _ q => by cases q) (r_bFits (by omega)) ?_
              try refine R_top (y := nI _) (by assumption) ?_
              refine R_ifT (pc' := 61) rfl rfl (by first | assumption | exact icT (by decide) | exact ic_T (by omega) (by omega) (by simp only [icN, not_true_eq_false, not_false_eq_true] <;> omega) | exact ic_T0 (by omega) (by simp only [icN, not_true_eq_false, not_false_eq_true] <;> omega)) ?_
              refine R_aload_n rfl rfl ?_
              refine R_getA rfl rfl (Or.inl rfl) ?_
              refine R_iload_n rfl rfl ?_
              refine R_iald rfl rfl rfl (show _ < 2000 from by omega) ?_
              try refine R_top (y := nI _) (by assumption) ?_
              refine R_bipush (y := nI 33) rfl (by decide) ?_
              refine R_icT (pc' := 91) rfl rfl (by first | assumption | exact icT (by decide) | exact ic_T (by omega) (by omega) (by simp only [icN, not_true_eq_false, not_false_eq_true] <;> omega) | exact ic_T0 (by omega) (by simp only [icN, not_true_eq_false, not_false_eq_true] <;> omega)) ?_
              refine R_aload_n rfl rfl ?_
              refine R_getA rfl rfl (Or.inl rfl) ?_
              refine R_iload_n rfl rfl ?_
              refine R_iald rfl rfl rfl (show _ < 2000 from by omega) ?_
              try refine R_top (y := nI _) (by assumption) ?_
              refine R_stat rfl rfl rfl (Nat.le_of_ble_eq_true rfl) rfl rfl (Nat.le_of_ble_eq_true rfl) (fun _ q => by cases q) (r_namesL (by omega)) ?_
              try refine R_top (y := nI _) (by assumption) ?_
              refine R_ifF rfl (by first | assumption | exact icF (by decide) | exact ic_F (by omega) (by omega) (by simp only [icN, not_true_eq_false, not_false_eq_true] <;> omega) | exact ic_F0 (by omega) (by simp only [icN, not_true_eq_false, not_false_eq_true] <;> omega)) ?_
              refine R_aload_n rfl rfl ?_
              refine R_getA rfl rfl (Or.inl rfl) ?_
              refine R_aload_n rfl rfl ?_
              refine R_getA rfl rfl (Or.inl rfl) ?_
              refine R_iload_n rfl rfl ?_
              refine R_iald rfl rfl rfl (show _ < 2000 from by omega) ?_
              try refine R_top (y := nI _) (by assumption) ?_
              refine R_iald rfl rfl rfl (show _ < 200 from by omega) ?_
              try refine R_top (y := nI _) (by assumption) ?_
              refine R_ifT (pc' := 121) rfl rfl (h6') ?_
              refine R_iconst (y := nI 0) rfl (by decide) ?_
              exact R_iret rfl rfl (by first | trivial | exact Or.inl rfl | exact Or.inr rfl | assumption | exact b01) ⟨rfl, rfl⟩
          · have vN := b2i_0 hN
            rw [if_neg (fun q => hN q.1)]
            refine CalR_of (md := md_X9_faultOf) (d := d + 2) rfl (Nat.le_of_ble_eq_true rfl) ?_
            show WR (CalR (d + 2)) t_X9_faultOf 9 (some .int) _ 0 [(0, .ref 0), (1, .int (nI i))] [] _
            refine R_aload_n rfl rfl ?_
            refine R_getA rfl rfl (Or.inl rfl) ?_
            refine R_iload_n rfl rfl ?_
            refine R_iald rfl rfl rfl (show _ < 2000 from by omega) ?_
            try refine R_top (y := nI _) (by assumption) ?_
            refine R_iconst (y := nI 0) rfl (by decide) ?_
            refine R_bipush (y := nI 34) rfl (by decide) ?_
            refine R_stat rfl rfl rfl (Nat.le_of_ble_eq_true rfl) rfl rfl (Nat.le_of_ble_eq_true rfl) (fun _ q => by cases q) (hin) ?_
            try refine R_top (y := nI _) (by assumption) ?_
            refine R_ifT (pc' := 17) rfl rfl (by first | assumption | exact icT (by decide) | exact ic_T (by omega) (by omega) (by simp only [icN, not_true_eq_false, not_false_eq_true] <;> omega) | exact ic_T0 (by omega) (by simp only [icN, not_true_eq_false, not_false_eq_true] <;> omega)) ?_
            refine R_aload_n rfl rfl ?_
            refine R_getA rfl rfl (Or.inl rfl) ?_
            refine R_iload_n rfl rfl ?_
            refine R_iald rfl rfl rfl (show _ < 2000 from by omega) ?_
            try refine R_top (y := nI _) (by assumption) ?_
            refine R_aload_n rfl rfl ?_
            refine R_getA rfl rfl (Or.inl rfl) ?_
            refine R_iload_n rfl rfl ?_
            refine R_iald rfl rfl rfl (show _ < 2000 from by omega) ?_
            try refine R_top (y := nI _) (by assumption) ?_
            refine R_stat rfl rfl rfl (Nat.le_of_ble_eq_true rfl) rfl rfl (Nat.le_of_ble_eq_true rfl) (fun _ q => by cases q) (r_aFits (by omega)) ?_
            try refine R_top (y := nI _) (by assumption) ?_
            refine R_ifF rfl (by first | assumption | exact icF (by decide) | exact ic_F (by omega) (by omega) (by simp only [icN, not_true_eq_false, not_false_eq_true] <;> omega) | exact ic_F0 (by omega) (by simp only [icN, not_true_eq_false, not_false_eq_true] <;> omega)) ?_
            refine R_aload_n rfl rfl ?_
            refine R_getA rfl rfl (Or.inl rfl) ?_
            refine R_iload_n rfl rfl ?_
            refine R_iald rfl rfl rfl (show _ < 2000 from by omega) ?_
            try refine R_top (y := nI _) (by assumption) ?_
            refine R_aload_n rfl rfl ?_
            refine R_getA rfl rfl (Or.inl rfl) ?_
            refine R_iload_n rfl rfl ?_
            refine R_iald rfl rfl rfl (show _ < 2000 from by omega) ?_
            try refine R_top (y := nI _) (by assumption) ?_
            refine R_aload_n rfl rfl ?_
            refine R_getA rfl rfl (Or.inl rfl) ?_
            refine R_iload_n rfl rfl ?_
            refine R_iald rfl rfl rfl (show _ < 2000 from by omega) ?_
            try refine R_top (y := nI _) (by assumption) ?_
            refine R_stat rfl rfl rfl (Nat.le_of_ble_eq_true rfl) rfl rfl (Nat.le_of_ble_eq_true rfl) (fun _ q => by cases q) (r_bFits (by omega)) ?_
            try refine R_top (y := nI _) (by assumption) ?_
            refine R_ifT (pc' := 61) rfl rfl (by first | assumption | exact icT (by decide) | exact ic_T (by omega) (by omega) (by simp only [icN, not_true_eq_false, not_false_eq_true] <;> omega) | exact ic_T0 (by omega) (by simp only [icN, not_true_eq_false, not_false_eq_true] <;> omega)) ?_
            refine R_aload_n rfl rfl ?_
            refine R_getA rfl rfl (Or.inl rfl) ?_
            refine R_iload_n rfl rfl ?_
            refine R_iald rfl rfl rfl (show _ < 2000 from by omega) ?_
            try refine R_top (y := nI _) (by assumption) ?_
            refine R_bipush (y := nI 33) rfl (by decide) ?_
            refine R_icT (pc' := 91) rfl rfl (by first | assumption | exact icT (by decide) | exact ic_T (by omega) (by omega) (by simp only [icN, not_true_eq_false, not_false_eq_true] <;> omega) | exact ic_T0 (by omega) (by simp only [icN, not_true_eq_false, not_false_eq_true] <;> omega)) ?_
            refine R_aload_n rfl rfl ?_
            refine R_getA rfl rfl (Or.inl rfl) ?_
            refine R_iload_n rfl rfl ?_
            refine R_iald rfl rfl rfl (show _ < 2000 from by omega) ?_
            try refine R_top (y := nI _) (by assumption) ?_
            refine R_stat rfl rfl rfl (Nat.le_of_ble_eq_true rfl) rfl rfl (Nat.le_of_ble_eq_true rfl) (fun _ q => by cases q) (r_namesL (by omega)) ?_
            try refine R_top (y := nI _) (by assumption) ?_
            refine R_ifT (pc' := 121) rfl rfl (by first | assumption | exact icT (by decide) | exact ic_T (by omega) (by omega) (by simp only [icN, not_true_eq_false, not_false_eq_true] <;> omega) | exact ic_T0 (by omega) (by simp only [icN, not_true_eq_false, not_false_eq_true] <;> omega)) ?_
            refine R_iconst (y := nI 0) rfl (by decide) ?_
            exact R_iret rfl rfl (by first | trivial | exact Or.inl rfl | exact Or.inr rfl | assumption | exact b01) ⟨rfl, rfl⟩
      · have vB := b2i_0 hB
        rw [if_neg (fun q => hB q.2)]
        refine CalR_of (md := md_X9_faultOf) (d := d + 2) rfl (Nat.le_of_ble_eq_true rfl) ?_
        show WR (CalR (d + 2)) t_X9_faultOf 9 (some .int) _ 0 [(0, .ref 0), (1, .int (nI i))] [] _
        refine R_aload_n rfl rfl ?_
        refine R_getA rfl rfl (Or.inl rfl) ?_
        refine R_iload_n rfl rfl ?_
        refine R_iald rfl rfl rfl (show _ < 2000 from by omega) ?_
        try refine R_top (y := nI _) (by assumption) ?_
        refine R_iconst (y := nI 0) rfl (by decide) ?_
        refine R_bipush (y := nI 34) rfl (by decide) ?_
        refine R_stat rfl rfl rfl (Nat.le_of_ble_eq_true rfl) rfl rfl (Nat.le_of_ble_eq_true rfl) (fun _ q => by cases q) (hin) ?_
        try refine R_top (y := nI _) (by assumption) ?_
        refine R_ifT (pc' := 17) rfl rfl (by first | assumption | exact icT (by decide) | exact ic_T (by omega) (by omega) (by simp only [icN, not_true_eq_false, not_false_eq_true] <;> omega) | exact ic_T0 (by omega) (by simp only [icN, not_true_eq_false, not_false_eq_true] <;> omega)) ?_
        refine R_aload_n rfl rfl ?_
        refine R_getA rfl rfl (Or.inl rfl) ?_
        refine R_iload_n rfl rfl ?_
        refine R_iald rfl rfl rfl (show _ < 2000 from by omega) ?_
        try refine R_top (y := nI _) (by assumption) ?_
        refine R_aload_n rfl rfl ?_
        refine R_getA rfl rfl (Or.inl rfl) ?_
        refine R_iload_n rfl rfl ?_
        refine R_iald rfl rfl rfl (show _ < 2000 from by omega) ?_
        try refine R_top (y := nI _) (by assumption) ?_
        refine R_stat rfl rfl rfl (Nat.le_of_ble_eq_true rfl) rfl rfl (Nat.le_of_ble_eq_true rfl) (fun _ q => by cases q) (r_aFits (by omega)) ?_
        try refine R_top (y := nI _) (by assumption) ?_
        refine R_ifF rfl (by first | assumption | exact icF (by decide) | exact ic_F (by omega) (by omega) (by simp only [icN, not_true_eq_false, not_false_eq_true] <;> omega) | exact ic_F0 (by omega) (by simp only [icN, not_true_eq_false, not_false_eq_true] <;> omega)) ?_
        refine R_aload_n rfl rfl ?_
        refine R_getA rfl rfl (Or.inl rfl) ?_
        refine R_iload_n rfl rfl ?_
        refine R_iald rfl rfl rfl (show _ < 2000 from by omega) ?_
        try refine R_top (y := nI _) (by assumption) ?_
        refine R_aload_n rfl rfl ?_
        refine R_getA rfl rfl (Or.inl rfl) ?_
        refine R_iload_n rfl rfl ?_
        refine R_iald rfl rfl rfl (show _ < 2000 from by omega) ?_
        try refine R_top (y := nI _) (by assumption) ?_
        refine R_aload_n rfl rfl ?_
        refine R_getA rfl rfl (Or.inl rfl) ?_
        refine R_iload_n rfl rfl ?_
        refine R_iald rfl rfl rfl (show _ < 2000 from by omega) ?_
        try refine R_top (y := nI _) (by assumption) ?_
        refine R_stat rfl rfl rfl (Nat.le_of_ble_eq_true rfl) rfl rfl (Nat.le_of_ble_eq_true rfl) (fun _ q => by cases q) (r_bFits (by omega)) ?_
        try refine R_top (y := nI _) (by assumption) ?_
        refine R_ifF rfl (by first | assumption | exact icF (by decide) | exact ic_F (by omega) (by omega) (by simp only [icN, not_true_eq_false, not_false_eq_true] <;> omega) | exact ic_F0 (by omega) (by simp only [icN, not_true_eq_false, not_false_eq_true] <;> omega)) ?_
        refine R_iconst (y := nI 2) rfl (by decide) ?_
        exact R_iret rfl rfl (by first | trivial | exact Or.inl rfl | exact Or.inr rfl | assumption | exact b01) ⟨rfl, rfl⟩
    · have vA := b2i_0 hA
      rw [if_neg (fun q => hA q.1)]
      refine CalR_of (md := md_X9_faultOf) (d := d + 2) rfl (Nat.le_of_ble_eq_true rfl) ?_
      show WR (CalR (d + 2)) t_X9_faultOf 9 (some .int) _ 0 [(0, .ref 0), (1, .int (nI i))] [] _
      refine R_aload_n rfl rfl ?_
      refine R_getA rfl rfl (Or.inl rfl) ?_
      refine R_iload_n rfl rfl ?_
      refine R_iald rfl rfl rfl (show _ < 2000 from by omega) ?_
      try refine R_top (y := nI _) (by assumption) ?_
      refine R_iconst (y := nI 0) rfl (by decide) ?_
      refine R_bipush (y := nI 34) rfl (by decide) ?_
      refine R_stat rfl rfl rfl (Nat.le_of_ble_eq_true rfl) rfl rfl (Nat.le_of_ble_eq_true rfl) (fun _ q => by cases q) (hin) ?_
      try refine R_top (y := nI _) (by assumption) ?_
      refine R_ifT (pc' := 17) rfl rfl (by first | assumption | exact icT (by decide) | exact ic_T (by omega) (by omega) (by simp only [icN, not_true_eq_false, not_false_eq_true] <;> omega) | exact ic_T0 (by omega) (by simp only [icN, not_true_eq_false, not_false_eq_true] <;> omega)) ?_
      refine R_aload_n rfl rfl ?_
      refine R_getA rfl rfl (Or.inl rfl) ?_
      refine R_iload_n rfl rfl ?_
      refine R_iald rfl rfl rfl (show _ < 2000 from by omega) ?_
      try refine R_top (y := nI _) (by assumption) ?_
      refine R_aload_n rfl rfl ?_
      refine R_getA rfl rfl (Or.inl rfl) ?_
      refine R_iload_n rfl rfl ?_
      refine R_iald rfl rfl rfl (show _ < 2000 from by omega) ?_
      try refine R_top (y := nI _) (by assumption) ?_
      refine R_stat rfl rfl rfl (Nat.le_of_ble_eq_true rfl) rfl rfl (Nat.le_of_ble_eq_true rfl) (fun _ q => by cases q) (r_aFits (by omega)) ?_
      try refine R_top (y := nI _) (by assumption) ?_
      refine R_ifT (pc' := 59) rfl rfl (by first | assumption | exact icT (by decide) | exact ic_T (by omega) (by omega) (by simp only [icN, not_true_eq_false, not_false_eq_true] <;> omega) | exact ic_T0 (by omega) (by simp only [icN, not_true_eq_false, not_false_eq_true] <;> omega)) ?_
      refine R_iconst (y := nI 2) rfl (by decide) ?_
      exact R_iret rfl rfl (by first | trivial | exact Or.inl rfl | exact Or.inr rfl | assumption | exact b01) ⟨rfl, rfl⟩
  · have hin : CalR (d + 2) j_X9_isIn [.int (M 2 i), .int (nI 0), .int (nI 34)] M (some (.int 0)) M := by
      have := r_isIn (d := d + 1) (M := M) (v := M 2 i) (lo := nI 0) (hi := nI 34)
      rw [if_neg hr] at this
      exact this
    have e1 : flt M i = 1 := by unfold flt; rw [if_neg hr]
    rw [e1]
    refine CalR_of (md := md_X9_faultOf) (d := d + 2) rfl (Nat.le_of_ble_eq_true rfl) ?_
    show WR (CalR (d + 2)) t_X9_faultOf 9 (some .int) _ 0 [(0, .ref 0), (1, .int (nI i))] [] _
    refine R_aload_n rfl rfl ?_
    refine R_getA rfl rfl (Or.inl rfl) ?_
    refine R_iload_n rfl rfl ?_
    refine R_iald rfl rfl rfl (show _ < 2000 from by omega) ?_
    try refine R_top (y := nI _) (by assumption) ?_
    refine R_iconst (y := nI 0) rfl (by decide) ?_
    refine R_bipush (y := nI 34) rfl (by decide) ?_
    refine R_stat rfl rfl rfl (Nat.le_of_ble_eq_true rfl) rfl rfl (Nat.le_of_ble_eq_true rfl) (fun _ q => by cases q) (hin) ?_
    try refine R_top (y := nI _) (by assumption) ?_
    refine R_ifF rfl (by first | assumption | exact icF (by decide) | exact ic_F (by omega) (by omega) (by simp only [icN, not_true_eq_false, not_false_eq_true] <;> omega) | exact ic_F0 (by omega) (by simp only [icN, not_true_eq_false, not_false_eq_true] <;> omega)) ?_
    refine R_iconst (y := nI 1) rfl (by decide) ?_
    exact R_iret rfl rfl (by first | trivial | exact Or.inl rfl | exact Or.inr rfl | assumption | exact b01) ⟨rfl, rfl⟩
def labM (M : Mem) : Nat → Mem
  | 0 => M
  | n + 1 => if M 2 n = nI 33 ∧ fA 33 (M 3 n) = true ∧ M 4 n = 0 ∧ labM M n 6 (M 3 n).toNatClampNeg < 0 then up2 (labM M n) 6 (M 3 n).toNatClampNeg (nI (n + 1)) else labM M n
theorem labM_keep {M : Mem} {k j : Nat} (h : k ≠ 6) : ∀ n, labM M n k j = M k j
  | 0 => rfl
  | n + 1 => by
    rw [labM]
    split
    · rw [up2_ne h]
      exact labM_keep h n
    · exact labM_keep h n
theorem r_labL {d : Nat} {M1 : Mem} {w : Nat} {Q : Option Value → Mem → Prop} (hw : M1 5 0 = nI w) (hw2 : w ≤ 2000) (kk : WR (CalR (d + 3)) t_X9_link 9 (some .int) Q 109 [(1, .int (nI w)), (0, .ref 0)] [] (labM M1 w)) : WR (CalR (d + 3)) t_X9_link 9 (some .int) Q 33 [(1, .int (nI 0)), (0, .ref 0)] [] M1 := by
  refine dn_up (P := fun n => WR (CalR (d + 3)) t_X9_link 9 (some .int) Q 33 [(1, .int (nI n)), (0, .ref 0)] [] (labM M1 n)) (N := w) ?_ ?_ 0 (Nat.zero_le _)
  · have h5 : labM M1 w 5 0 = nI w := (labM_keep (by omega) w).trans hw
    generalize labM M1 w = M2 at h5 kk ⊢
    refine R_iload_n rfl rfl ?_
    refine R_aload_n rfl rfl ?_
    refine R_getI rfl rfl (Or.inl rfl) ?_
    try refine R_top (y := nI _) (by assumption) ?_
    refine R_icT (pc' := 109) rfl rfl (by first | assumption | exact icT (by decide) | exact ic_T (by omega) (by omega) (by simp only [icN, not_true_eq_false, not_false_eq_true] <;> omega) | exact ic_T0 (by omega) (by simp only [icN, not_true_eq_false, not_false_eq_true] <;> omega)) ?_
    exact kk
  · intro n hn nx
    have h5 : labM M1 n 5 0 = nI w := (labM_keep (by omega) n).trans hw
    have e2 : labM M1 n 2 n = M1 2 n := labM_keep (by omega) n
    have e3 : labM M1 n 3 n = M1 3 n := labM_keep (by omega) n
    have e4 : labM M1 n 4 n = M1 4 n := labM_keep (by omega) n
    rw [labM, ← e2, ← e3, ← e4] at nx
    generalize labM M1 n = M2 at h5 nx ⊢
    clear e2 e3 e4
    by_cases h2 : M2 2 n = nI 33
    · by_cases hA : fA 33 (M2 3 n) = true
      · have vA := b2i_1 hA
        obtain ⟨l, hl, hx⟩ := fA_lab (Or.inl rfl) hA
        have hc2 : (M2 3 n).toNatClampNeg = l := by rw [hx, nI_clamp (by omega)]
        rw [hc2] at nx
        by_cases h4 : M2 4 n = 0
        · by_cases h6 : M2 6 l < 0
          · rw [if_pos ⟨h2, hA, h4, h6⟩] at nx
            have h6' : ¬ 0 ≤ M2 6 l := Int32.not_le.mpr h6
            rw [hx] at vA
            refine R_iload_n rfl rfl ?_
            refine R_aload_n rfl rfl ?_
            refine R_getI rfl rfl (Or.inl rfl) ?_
            try refine R_top (y := nI _) (by assumption) ?_
            refine R_icF rfl (by first | assumption | exact icF (by decide) | exact ic_F (by omega) (by omega) (by simp only [icN, not_true_eq_false, not_false_eq_true] <;> omega) | exact ic_F0 (by omega) (by simp only [icN, not_true_eq_false, not_false_eq_true] <;> omega)) ?_
            refine R_aload_n rfl rfl ?_
            refine R_getA rfl rfl (Or.inl rfl) ?_
            refine R_iload_n rfl rfl ?_
            refine R_iald rfl rfl rfl (show _ < 2000 from by omega) ?_
            try refine R_top (y := nI _) (by assumption) ?_
            refine R_bipush (y := nI 33) rfl (by decide) ?_
            refine R_icF rfl (by first | assumption | exact icF (by decide) | exact ic_F (by omega) (by omega) (by simp only [icN, not_true_eq_false, not_false_eq_true] <;> omega) | exact ic_F0 (by omega) (by simp only [icN, not_true_eq_false, not_false_eq_true] <;> omega)) ?_
            refine R_bipush (y := nI 33) rfl (by decide) ?_
            refine R_aload_n rfl rfl ?_
            refine R_getA rfl rfl (Or.inl rfl) ?_
            refine R_iload_n rfl rfl ?_
            refine R_iald rfl rfl rfl (show _ < 2000 from by omega) ?_
            try refine R_top (y := nI _) (by assumption) ?_
            refine R_stat rfl rfl rfl (Nat.le_of_ble_eq_true rfl) rfl rfl (Nat.le_of_ble_eq_true rfl) (fun _ q => by cases q) (r_aFits (by omega)) ?_
            try refine R_top (y := nI _) (by assumption) ?_
            refine R_ifF rfl (by first | assumption | exact icF (by decide) | exact ic_F (by omega) (by omega) (by simp only [icN, not_true_eq_false, not_false_eq_true] <;> omega) | exact ic_F0 (by omega) (by simp only [icN, not_true_eq_false, not_false_eq_true] <;> omega)) ?_
            refine R_aload_n rfl rfl ?_
            refine R_getA rfl rfl (Or.inl rfl) ?_
            refine R_iload_n rfl rfl ?_
            refine R_iald rfl rfl rfl (show _ < 2000 from by omega) ?_
            try refine R_top (y := nI _) (by assumption) ?_
            refine R_ifF rfl (by first | assumption | exact icF (by decide) | exact ic_F (by omega) (by omega) (by simp only [icN, not_true_eq_false, not_false_eq_true] <;> omega) | exact ic_F0 (by omega) (by simp only [icN, not_true_eq_false, not_false_eq_true] <;> omega)) ?_
            refine R_aload_n rfl rfl ?_
            refine R_getA rfl rfl (Or.inl rfl) ?_
            refine R_aload_n rfl rfl ?_
            refine R_getA rfl rfl (Or.inl rfl) ?_
            refine R_iload_n rfl rfl ?_
            refine R_iald rfl rfl rfl (show _ < 2000 from by omega) ?_
            try refine R_top (y := nI _) (by assumption) ?_
            refine R_iald rfl rfl rfl (show _ < 200 from by omega) ?_
            try refine R_top (y := nI _) (by assumption) ?_
            refine R_ifF rfl (h6') ?_
            refine R_aload_n rfl rfl ?_
            refine R_getA rfl rfl (Or.inl rfl) ?_
            refine R_aload_n rfl rfl ?_
            refine R_getA rfl rfl (Or.inl rfl) ?_
            refine R_iload_n rfl rfl ?_
            refine R_iald rfl rfl rfl (show _ < 2000 from by omega) ?_
            try refine R_top (y := nI _) (by assumption) ?_
            refine R_iload_n rfl rfl ?_
            refine R_iconst (y := nI 1) rfl (by decide) ?_
            first | refine R_iaddN rfl ?_ | refine R_iadd rfl ?_
            refine R_iast rfl rfl rfl (show _ < 200 from by omega) ?_
            refine R_iinc (lv' := [(1, _), (0, _)]) rfl rfl (by exact nI_1 _) rfl ?_
            refine R_goto (pc' := 33) rfl rfl ?_
            exact nx
          · rw [if_neg (fun q => h6 q.2.2.2)] at nx
            have h6' : 0 ≤ M2 6 l := Int32.not_lt.mp h6
            rw [hx] at vA
            refine R_iload_n rfl rfl ?_
            refine R_aload_n rfl rfl ?_
            refine R_getI rfl rfl (Or.inl rfl) ?_
            try refine R_top (y := nI _) (by assumption) ?_
            refine R_icF rfl (by first | assumption | exact icF (by decide) | exact ic_F (by omega) (by omega) (by simp only [icN, not_true_eq_false, not_false_eq_true] <;> omega) | exact ic_F0 (by omega) (by simp only [icN, not_true_eq_false, not_false_eq_true] <;> omega)) ?_
            refine R_aload_n rfl rfl ?_
            refine R_getA rfl rfl (Or.inl rfl) ?_
            refine R_iload_n rfl rfl ?_
            refine R_iald rfl rfl rfl (show _ < 2000 from by omega) ?_
            try refine R_top (y := nI _) (by assumption) ?_
            refine R_bipush (y := nI 33) rfl (by decide) ?_
            refine R_icF rfl (by first | assumption | exact icF (by decide) | exact ic_F (by omega) (by omega) (by simp only [icN, not_true_eq_false, not_false_eq_true] <;> omega) | exact ic_F0 (by omega) (by simp only [icN, not_true_eq_false, not_false_eq_true] <;> omega)) ?_
            refine R_bipush (y := nI 33) rfl (by decide) ?_
            refine R_aload_n rfl rfl ?_
            refine R_getA rfl rfl (Or.inl rfl) ?_
            refine R_iload_n rfl rfl ?_
            refine R_iald rfl rfl rfl (show _ < 2000 from by omega) ?_
            try refine R_top (y := nI _) (by assumption) ?_
            refine R_stat rfl rfl rfl (Nat.le_of_ble_eq_true rfl) rfl rfl (Nat.le_of_ble_eq_true rfl) (fun _ q => by cases q) (r_aFits (by omega)) ?_
            try refine R_top (y := nI _) (by assumption) ?_
            refine R_ifF rfl (by first | assumption | exact icF (by decide) | exact ic_F (by omega) (by omega) (by simp only [icN, not_true_eq_false, not_false_eq_true] <;> omega) | exact ic_F0 (by omega) (by simp only [icN, not_true_eq_false, not_false_eq_true] <;> omega)) ?_
            refine R_aload_n rfl rfl ?_
            refine R_getA rfl rfl (Or.inl rfl) ?_
            refine R_iload_n rfl rfl ?_
            refine R_iald rfl rfl rfl (show _ < 2000 from by omega) ?_
            try refine R_top (y := nI _) (by assumption) ?_
            refine R_ifF rfl (by first | assumption | exact icF (by decide) | exact ic_F (by omega) (by omega) (by simp only [icN, not_true_eq_false, not_false_eq_true] <;> omega) | exact ic_F0 (by omega) (by simp only [icN, not_true_eq_false, not_false_eq_true] <;> omega)) ?_
            refine R_aload_n rfl rfl ?_
            refine R_getA rfl rfl (Or.inl rfl) ?_
            refine R_aload_n rfl rfl ?_
            refine R_getA rfl rfl (Or.inl rfl) ?_
            refine R_iload_n rfl rfl ?_
            refine R_iald rfl rfl rfl (show _ < 2000 from by omega) ?_
            try refine R_top (y := nI _) (by assumption) ?_
            refine R_iald rfl rfl rfl (show _ < 200 from by omega) ?_
            try refine R_top (y := nI _) (by assumption) ?_
            refine R_ifT (pc' := 103) rfl rfl (h6') ?_
            refine R_iinc (lv' := [(1, _), (0, _)]) rfl rfl (by exact nI_1 _) rfl ?_
            refine R_goto (pc' := 33) rfl rfl ?_
            exact nx
        · rw [if_neg (fun q => h4 q.2.2.1)] at nx
          rw [hx] at vA
          refine R_iload_n rfl rfl ?_
          refine R_aload_n rfl rfl ?_
          refine R_getI rfl rfl (Or.inl rfl) ?_
          try refine R_top (y := nI _) (by assumption) ?_
          refine R_icF rfl (by first | assumption | exact icF (by decide) | exact ic_F (by omega) (by omega) (by simp only [icN, not_true_eq_false, not_false_eq_true] <;> omega) | exact ic_F0 (by omega) (by simp only [icN, not_true_eq_false, not_false_eq_true] <;> omega)) ?_
          refine R_aload_n rfl rfl ?_
          refine R_getA rfl rfl (Or.inl rfl) ?_
          refine R_iload_n rfl rfl ?_
          refine R_iald rfl rfl rfl (show _ < 2000 from by omega) ?_
          try refine R_top (y := nI _) (by assumption) ?_
          refine R_bipush (y := nI 33) rfl (by decide) ?_
          refine R_icF rfl (by first | assumption | exact icF (by decide) | exact ic_F (by omega) (by omega) (by simp only [icN, not_true_eq_false, not_false_eq_true] <;> omega) | exact ic_F0 (by omega) (by simp only [icN, not_true_eq_false, not_false_eq_true] <;> omega)) ?_
          refine R_bipush (y := nI 33) rfl (by decide) ?_
          refine R_aload_n rfl rfl ?_
          refine R_getA rfl rfl (Or.inl rfl) ?_
          refine R_iload_n rfl rfl ?_
          refine R_iald rfl rfl rfl (show _ < 2000 from by omega) ?_
          try refine R_top (y := nI _) (by assumption) ?_
          refine R_stat rfl rfl rfl (Nat.le_of_ble_eq_true rfl) rfl rfl (Nat.le_of_ble_eq_true rfl) (fun _ q => by cases q) (r_aFits (by omega)) ?_
          try refine R_top (y := nI _) (by assumption) ?_
          refine R_ifF rfl (by first | assumption | exact icF (by decide) | exact ic_F (by omega) (by omega) (by simp only [icN, not_true_eq_false, not_false_eq_true] <;> omega) | exact ic_F0 (by omega) (by simp only [icN, not_true_eq_false, not_false_eq_true] <;> omega)) ?_
          refine R_aload_n rfl rfl ?_
          refine R_getA rfl rfl (Or.inl rfl) ?_
          refine R_iload_n rfl rfl ?_
          refine R_iald rfl rfl rfl (show _ < 2000 from by omega) ?_
          try refine R_top (y := nI _) (by assumption) ?_
          refine R_ifT (pc' := 103) rfl rfl (h4) ?_
          refine R_iinc (lv' := [(1, _), (0, _)]) rfl rfl (by exact nI_1 _) rfl ?_
          refine R_goto (pc' := 33) rfl rfl ?_
          exact nx
      · have vA := b2i_0 hA
        rw [if_neg (fun q => hA q.2.1)] at nx
        refine R_iload_n rfl rfl ?_
        refine R_aload_n rfl rfl ?_
        refine R_getI rfl rfl (Or.inl rfl) ?_
        try refine R_top (y := nI _) (by assumption) ?_
        refine R_icF rfl (by first | assumption | exact icF (by decide) | exact ic_F (by omega) (by omega) (by simp only [icN, not_true_eq_false, not_false_eq_true] <;> omega) | exact ic_F0 (by omega) (by simp only [icN, not_true_eq_false, not_false_eq_true] <;> omega)) ?_
        refine R_aload_n rfl rfl ?_
        refine R_getA rfl rfl (Or.inl rfl) ?_
        refine R_iload_n rfl rfl ?_
        refine R_iald rfl rfl rfl (show _ < 2000 from by omega) ?_
        try refine R_top (y := nI _) (by assumption) ?_
        refine R_bipush (y := nI 33) rfl (by decide) ?_
        refine R_icF rfl (by first | assumption | exact icF (by decide) | exact ic_F (by omega) (by omega) (by simp only [icN, not_true_eq_false, not_false_eq_true] <;> omega) | exact ic_F0 (by omega) (by simp only [icN, not_true_eq_false, not_false_eq_true] <;> omega)) ?_
        refine R_bipush (y := nI 33) rfl (by decide) ?_
        refine R_aload_n rfl rfl ?_
        refine R_getA rfl rfl (Or.inl rfl) ?_
        refine R_iload_n rfl rfl ?_
        refine R_iald rfl rfl rfl (show _ < 2000 from by omega) ?_
        try refine R_top (y := nI _) (by assumption) ?_
        refine R_stat rfl rfl rfl (Nat.le_of_ble_eq_true rfl) rfl rfl (Nat.le_of_ble_eq_true rfl) (fun _ q => by cases q) (r_aFits (by omega)) ?_
        try refine R_top (y := nI _) (by assumption) ?_
        refine R_ifT (pc' := 103) rfl rfl (by first | assumption | exact icT (by decide) | exact ic_T (by omega) (by omega) (by simp only [icN, not_true_eq_false, not_false_eq_true] <;> omega) | exact ic_T0 (by omega) (by simp only [icN, not_true_eq_false, not_false_eq_true] <;> omega)) ?_
        refine R_iinc (lv' := [(1, _), (0, _)]) rfl rfl (by exact nI_1 _) rfl ?_
        refine R_goto (pc' := 33) rfl rfl ?_
        exact nx
    · rw [if_neg (fun q => h2 q.1)] at nx
      refine R_iload_n rfl rfl ?_
      refine R_aload_n rfl rfl ?_
      refine R_getI rfl rfl (Or.inl rfl) ?_
      try refine R_top (y := nI _) (by assumption) ?_
      refine R_icF rfl (by first | assumption | exact icF (by decide) | exact ic_F (by omega) (by omega) (by simp only [icN, not_true_eq_false, not_false_eq_true] <;> omega) | exact ic_F0 (by omega) (by simp only [icN, not_true_eq_false, not_false_eq_true] <;> omega)) ?_
      refine R_aload_n rfl rfl ?_
      refine R_getA rfl rfl (Or.inl rfl) ?_
      refine R_iload_n rfl rfl ?_
      refine R_iald rfl rfl rfl (show _ < 2000 from by omega) ?_
      try refine R_top (y := nI _) (by assumption) ?_
      refine R_bipush (y := nI 33) rfl (by decide) ?_
      refine R_icT (pc' := 103) rfl rfl (h2) ?_
      refine R_iinc (lv' := [(1, _), (0, _)]) rfl rfl (by exact nI_1 _) rfl ?_
      refine R_goto (pc' := 33) rfl rfl ?_
      exact nx
theorem up2_up2 (M : Mem) (k j : Nat) (x y : Int32) : up2 (up2 M k j x) k j y = up2 M k j y := by
  funext k' j'
  unfold up2 upd
  by_cases h : k' = k
  · subst h
    rw [if_pos rfl, if_pos rfl, if_pos rfl]
    by_cases hj : j' = j
    · rw [if_pos hj, if_pos hj]
    · rw [if_neg hj, if_neg hj, if_neg hj]
  · rw [if_neg h, if_neg h, if_neg h]
/-- the memory of a link behind its labels -/
def lnkM (M : Mem) (w : Nat) : Mem := labM (fil (clrM (up2 M 7 0 (nI 0))) 6 200 (-1)) w
theorem r_linkP {d : Nat} {M : Mem} {w : Nat} {Q : Option Value → Mem → Prop} (hw : M 5 0 = nI w) (hw2 : w ≤ 2000) (kk : WR (CalR (d + 3)) t_X9_link 9 (some .int) Q 109 [(1, .int (nI w)), (0, .ref 0)] [] (lnkM M w)) : CQ (d + 4) j_X9_link [.ref 0] M Q := by
  refine CQ_of (md := md_X9_link) (d := d + 3) rfl (Nat.le_of_ble_eq_true rfl) ?_
  show WR (CalR (d + 3)) t_X9_link 9 (some .int) _ 0 [(0, .ref 0)] [] _
  refine R_aload_n rfl rfl ?_
  refine R_iconst (y := nI 0) rfl (by decide) ?_
  refine R_putZ rfl rfl rfl (by first | exact Or.inl rfl | exact Or.inr rfl | assumption) ?_
  refine R_aload_n rfl rfl ?_
  refine R_virt rfl rfl rfl rfl rfl rfl rfl (Nat.le_of_ble_eq_true rfl) (fun _ q => by cases q) (r_clear) ?_
  refine R_iconst (y := nI 0) rfl (by decide) ?_
  refine R_istore_n (lv' := [(1, _), (0, _)]) rfl rfl ?_
  have h5 : (clrM (up2 M 7 0 (nI 0))) 5 0 = nI w := hw
  unfold lnkM at kk
  generalize clrM (up2 M 7 0 (nI 0)) = M1 at h5 kk ⊢
  refine WR_eq (fil_0 M1 6 (-1)).symm ?_
  refine dn_up (P := fun n => WR (CalR (d + 3)) t_X9_link 9 (some .int) Q 11 [(1, .int (nI n)), (0, .ref 0)] [] (fil M1 6 n (-1))) (N := 200) ?_ ?_ 0 (Nat.zero_le _)
  · refine R_iload_n rfl rfl ?_
    refine R_sipush (y := nI 200) rfl (by decide) ?_
    refine R_icT (pc' := 31) rfl rfl (by first | assumption | exact icT (by decide) | exact ic_T (by omega) (by omega) (by simp only [icN, not_true_eq_false, not_false_eq_true] <;> omega) | exact ic_T0 (by omega) (by simp only [icN, not_true_eq_false, not_false_eq_true] <;> omega)) ?_
    refine R_iconst (y := nI 0) rfl (by decide) ?_
    refine R_istore_n (lv' := [(1, _), (0, _)]) rfl rfl ?_
    exact r_labL h5 hw2 kk
  · intro n hn nx
    refine R_iload_n rfl rfl ?_
    refine R_sipush (y := nI 200) rfl (by decide) ?_
    refine R_icF rfl (by first | assumption | exact icF (by decide) | exact ic_F (by omega) (by omega) (by simp only [icN, not_true_eq_false, not_false_eq_true] <;> omega) | exact ic_F0 (by omega) (by simp only [icN, not_true_eq_false, not_false_eq_true] <;> omega)) ?_
    refine R_aload_n rfl rfl ?_
    refine R_getA rfl rfl (Or.inl rfl) ?_
    refine R_iload_n rfl rfl ?_
    refine R_iconst (y := (-1)) rfl (by decide) ?_
    refine R_iast rfl rfl rfl (show _ < 200 from by omega) ?_
    refine WR_eq (fil_s M1 6 n (-1)) ?_
    refine R_iinc (lv' := [(1, _), (0, _)]) rfl rfl (by exact nI_1 _) rfl ?_
    refine R_goto (pc' := 11) rfl rfl ?_
    exact nx
theorem r_linkF {d : Nat} {M : Mem} {w i : Nat} (hw : M 5 0 = nI w) (hw2 : w ≤ 2000) (hi : i < w) (hf : ¬ flt (lnkM M w) i = 0) (hall : ∀ j, j < i → flt (lnkM M w) j = 0) : CQ (d + 4) j_X9_link [.ref 0] M (fun v M' => v = some (.int ((-10) - nI i)) ∧ M' = up2 (lnkM M w) 8 0 (nI (flt (lnkM M w) i))) := by
  refine r_linkP hw hw2 ?_
  have h5 : lnkM M w 5 0 = nI w := (labM_keep (by omega) w).trans hw
  have hle : flt (lnkM M w) i ≤ 4 := by
    unfold flt
    split
    · split
      · split
        · omega
        · split <;> omega
      · omega
    · omega
  generalize lnkM M w = X at h5 hf hall hle ⊢
  refine R_aload_n rfl rfl ?_
  refine R_iconst (y := nI 0) rfl (by decide) ?_
  refine R_put rfl rfl rfl ?_
  refine R_iconst (y := nI 0) rfl (by decide) ?_
  refine R_istore_n (lv' := [(1, _), (0, _)]) rfl rfl ?_
  have h5' : (up2 X 8 0 (nI 0)) 5 0 = nI w := h5
  refine dn_up (P := fun n => WR (CalR (d + 3)) t_X9_link 9 (some .int) (fun v M' => v = some (.int ((-10) - nI i)) ∧ M' = up2 X 8 0 (nI (flt X i))) 116 [(1, .int (nI n)), (0, .ref 0)] [] (up2 X 8 0 (nI 0))) (N := i) ?_ ?_ 0 (Nat.zero_le _)
  · have hF : CalR (d + 3) j_X9_faultOf [.ref 0, .int (nI i)] (up2 X 8 0 (nI 0)) (some (.int (nI (flt X i)))) (up2 X 8 0 (nI 0)) := r_faultOf (by omega)
    refine R_iload_n rfl rfl ?_
    refine R_aload_n rfl rfl ?_
    refine R_getI rfl rfl (Or.inl rfl) ?_
    try refine R_top (y := nI _) (by assumption) ?_
    refine R_icF rfl (by first | assumption | exact icF (by decide) | exact ic_F (by omega) (by omega) (by simp only [icN, not_true_eq_false, not_false_eq_true] <;> omega) | exact ic_F0 (by omega) (by simp only [icN, not_true_eq_false, not_false_eq_true] <;> omega)) ?_
    refine R_aload_n rfl rfl ?_
    refine R_aload_n rfl rfl ?_
    refine R_iload_n rfl rfl ?_
    refine R_virt rfl rfl rfl rfl rfl rfl rfl (Nat.le_of_ble_eq_true rfl) (fun _ q => by cases q) (hF) ?_
    try refine R_top (y := nI _) (by assumption) ?_
    refine R_put rfl rfl rfl ?_
    refine WR_eq (up2_up2 X 8 0 (nI 0) (nI (flt X i))) ?_
    have h8 : (up2 X 8 0 (nI (flt X i))) 8 0 = nI (flt X i) := rfl
    generalize up2 X 8 0 (nI (flt X i)) = X2 at h8 ⊢
    refine R_aload_n rfl rfl ?_
    refine R_getI rfl rfl (Or.inl rfl) ?_
    try refine R_top (y := nI _) (by assumption) ?_
    refine R_ifF rfl (by first | assumption | exact icF (by decide) | exact ic_F (by omega) (by omega) (by simp only [icN, not_true_eq_false, not_false_eq_true] <;> omega) | exact ic_F0 (by omega) (by simp only [icN, not_true_eq_false, not_false_eq_true] <;> omega)) ?_
    refine R_bipush (y := (-10)) rfl (by decide) ?_
    refine R_iload_n rfl rfl ?_
    first | refine R_isubN rfl (by omega) ?_ | refine R_isub rfl ?_
    exact R_iret rfl rfl (by first | trivial | exact Or.inl rfl | exact Or.inr rfl | assumption | exact b01) ⟨rfl, rfl⟩
  · intro n hn nx
    have hF : CalR (d + 3) j_X9_faultOf [.ref 0, .int (nI n)] (up2 X 8 0 (nI 0)) (some (.int (nI (flt X n)))) (up2 X 8 0 (nI 0)) := r_faultOf (by omega)
    rw [hall n hn] at hF
    refine R_iload_n rfl rfl ?_
    refine R_aload_n rfl rfl ?_
    refine R_getI rfl rfl (Or.inl rfl) ?_
    try refine R_top (y := nI _) (by assumption) ?_
    refine R_icF rfl (by first | assumption | exact icF (by decide) | exact ic_F (by omega) (by omega) (by simp only [icN, not_true_eq_false, not_false_eq_true] <;> omega) | exact ic_F0 (by omega) (by simp only [icN, not_true_eq_false, not_false_eq_true] <;> omega)) ?_
    refine R_aload_n rfl rfl ?_
    refine R_aload_n rfl rfl ?_
    refine R_iload_n rfl rfl ?_
    refine R_virt rfl rfl rfl rfl rfl rfl rfl (Nat.le_of_ble_eq_true rfl) (fun _ q => by cases q) (hF) ?_
    try refine R_top (y := nI _) (by assumption) ?_
    refine R_put rfl rfl rfl ?_
    refine WR_eq (up2_up2 X 8 0 (nI 0) (nI 0)) ?_
    have h8 : (up2 X 8 0 (nI 0)) 8 0 = nI 0 := rfl
    generalize up2 X 8 0 (nI 0) = X2 at h8 nx ⊢
    refine R_aload_n rfl rfl ?_
    refine R_getI rfl rfl (Or.inl rfl) ?_
    try refine R_top (y := nI _) (by assumption) ?_
    refine R_ifT (pc' := 145) rfl rfl (by first | assumption | exact icT (by decide) | exact ic_T (by omega) (by omega) (by simp only [icN, not_true_eq_false, not_false_eq_true] <;> omega) | exact ic_T0 (by omega) (by simp only [icN, not_true_eq_false, not_false_eq_true] <;> omega)) ?_
    refine R_iinc (lv' := [(1, _), (0, _)]) rfl rfl (by exact nI_1 _) rfl ?_
    refine R_goto (pc' := 116) rfl rfl ?_
    exact nx
theorem r_linkO {d : Nat} {M : Mem} {w : Nat} (hw : M 5 0 = nI w) (hw2 : w ≤ 2000) (hall : ∀ j, j < w → flt (lnkM M w) j = 0) : CQ (d + 4) j_X9_link [.ref 0] M (fun v M' => v = some (.int (nI 0)) ∧ M' = up2 (up2 (lnkM M w) 8 0 (nI 0)) 7 0 (nI 1)) := by
  refine r_linkP hw hw2 ?_
  have h5 : lnkM M w 5 0 = nI w := (labM_keep (by omega) w).trans hw
  generalize lnkM M w = X at h5 hall ⊢
  refine R_aload_n rfl rfl ?_
  refine R_iconst (y := nI 0) rfl (by decide) ?_
  refine R_put rfl rfl rfl ?_
  refine R_iconst (y := nI 0) rfl (by decide) ?_
  refine R_istore_n (lv' := [(1, _), (0, _)]) rfl rfl ?_
  have h5' : (up2 X 8 0 (nI 0)) 5 0 = nI w := h5
  refine dn_up (P := fun n => WR (CalR (d + 3)) t_X9_link 9 (some .int) (fun v M' => v = some (.int (nI 0)) ∧ M' = up2 (up2 X 8 0 (nI 0)) 7 0 (nI 1)) 116 [(1, .int (nI n)), (0, .ref 0)] [] (up2 X 8 0 (nI 0))) (N := w) ?_ ?_ 0 (Nat.zero_le _)
  · refine R_iload_n rfl rfl ?_
    refine R_aload_n rfl rfl ?_
    refine R_getI rfl rfl (Or.inl rfl) ?_
    try refine R_top (y := nI _) (by assumption) ?_
    refine R_icT (pc' := 151) rfl rfl (by first | assumption | exact icT (by decide) | exact ic_T (by omega) (by omega) (by simp only [icN, not_true_eq_false, not_false_eq_true] <;> omega) | exact ic_T0 (by omega) (by simp only [icN, not_true_eq_false, not_false_eq_true] <;> omega)) ?_
    refine R_aload_n rfl rfl ?_
    refine R_iconst (y := nI 1) rfl (by decide) ?_
    refine R_putZ rfl rfl rfl (by first | exact Or.inl rfl | exact Or.inr rfl | assumption) ?_
    refine R_iconst (y := nI 0) rfl (by decide) ?_
    exact R_iret rfl rfl (by first | trivial | exact Or.inl rfl | exact Or.inr rfl | assumption | exact b01) ⟨rfl, rfl⟩
  · intro n hn nx
    have hF : CalR (d + 3) j_X9_faultOf [.ref 0, .int (nI n)] (up2 X 8 0 (nI 0)) (some (.int (nI (flt X n)))) (up2 X 8 0 (nI 0)) := r_faultOf (by omega)
    rw [hall n hn] at hF
    refine R_iload_n rfl rfl ?_
    refine R_aload_n rfl rfl ?_
    refine R_getI rfl rfl (Or.inl rfl) ?_
    try refine R_top (y := nI _) (by assumption) ?_
    refine R_icF rfl (by first | assumption | exact icF (by decide) | exact ic_F (by omega) (by omega) (by simp only [icN, not_true_eq_false, not_false_eq_true] <;> omega) | exact ic_F0 (by omega) (by simp only [icN, not_true_eq_false, not_false_eq_true] <;> omega)) ?_
    refine R_aload_n rfl rfl ?_
    refine R_aload_n rfl rfl ?_
    refine R_iload_n rfl rfl ?_
    refine R_virt rfl rfl rfl rfl rfl rfl rfl (Nat.le_of_ble_eq_true rfl) (fun _ q => by cases q) (hF) ?_
    try refine R_top (y := nI _) (by assumption) ?_
    refine R_put rfl rfl rfl ?_
    refine WR_eq (up2_up2 X 8 0 (nI 0) (nI 0)) ?_
    have h8 : (up2 X 8 0 (nI 0)) 8 0 = nI 0 := rfl
    generalize up2 X 8 0 (nI 0) = X2 at h8 nx ⊢
    refine R_aload_n rfl rfl ?_
    refine R_getI rfl rfl (Or.inl rfl) ?_
    try refine R_top (y := nI _) (by assumption) ?_
    refine R_ifT (pc' := 145) rfl rfl (by first | assumption | exact icT (by decide) | exact ic_T (by omega) (by omega) (by simp only [icN, not_true_eq_false, not_false_eq_true] <;> omega) | exact ic_T0 (by omega) (by simp only [icN, not_true_eq_false, not_false_eq_true] <;> omega)) ?_
    refine R_iinc (lv' := [(1, _), (0, _)]) rfl rfl (by exact nI_1 _) rfl ?_
    refine R_goto (pc' := 116) rfl rfl ?_
    exact nx
