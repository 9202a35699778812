/-! ===== the reference: what a collection leaves as it is; fresh, copy, set ===== -/
def kpt (k : Nat) : Prop := k < 29 ∨ (30 < k ∧ k < 37) ∨ k = 40 ∨ 46 < k
theorem gcM_keep {M : Mem} {F : Nat → Bool} {s k j : Nat} (h1 : k ≠ 29) (h2 : k ≠ 41) (h3 : k ≠ 42) (h4 : k ≠ 43) : gcM M F s k j = M k j := by
  unfold gcM
  rw [if_neg h1, if_neg h2, if_neg h3, if_neg h4]
theorem up2_ne {M : Mem} {k j f i : Nat} {x : Int32} (h : f ≠ k) : up2 M k j x f i = M f i := by
  unfold up2
  rw [if_neg h]
theorem majM_keep {M : Mem} {L : List Nat} {k j : Nat} (h : kpt k) : majM M L k j = M k j := by
  unfold kpt at h
  unfold majM
  rw [up2_ne (by omega), gcM_keep (by omega) (by omega) (by omega) (by omega)]
theorem minM_keep {M : Mem} {L : List Nat} {x : Int32} {k j : Nat} (h : kpt k) : minM M L x k j = M k j := by
  unfold kpt at h
  unfold minM
  rw [up2_ne (by omega), up2_ne (by omega), up2_ne (by omega), up2_ne (by omega)]
  unfold oldM
  rw [if_neg (by omega), gcM_keep (by omega) (by omega) (by omega) (by omega)]
theorem kpt_eqm {k : Nat} (h : kpt k) : k < 37 ∨ 39 < k := by unfold kpt at h; omega
theorem minR_keep {M M2 : Mem} {p f : Nat} {lm : Nat → Nat} {v : Option Value} (h : minR M p f lm v M2) {k j : Nat} (hk : kpt k) : M2 k j = M k j := by
  rcases h with ⟨L, -, -, -, he⟩ | ⟨L, L0, L2, -, -, -, -, ⟨-, -, he⟩ | ⟨-, -, he⟩⟩
  · rw [he k j (kpt_eqm hk), minM_keep hk]
  · rw [he k j (kpt_eqm hk), minM_keep hk, majM_keep hk]
  · rw [he k j (kpt_eqm hk), majM_keep hk]
theorem ghR_keep {M M2 : Mem} {p f : Nat} {lm : Nat → Nat} {x : Int32} {v : Option Value} (h : ghR M p f lm x v M2) {k j : Nat} (hk : kpt k) : M2 k j = M k j := by
  rcases h with ⟨-, -, he⟩ | ⟨-, L0, -, he, -⟩
  · rw [he k j (kpt_eqm hk)]
  · rw [he k j (kpt_eqm hk), majM_keep hk]
theorem newM_keep {M : Mem} {i : Nat} {o x : Int32} {k j : Nat} (h : k < 29 ∨ (33 < k ∧ k < 40) ∨ 42 < k) : newM M i o x k j = M k j := by
  unfold newM
  rw [up2_ne (by split <;> omega), up2_ne (by omega), up2_ne (by omega), up2_ne (by omega), up2_ne (by omega), up2_ne (by omega), up2_ne (by omega)]
theorem newM_ne {M : Mem} {i : Nat} {o x : Int32} {k j : Nat} (h : 28 < k ∧ k < 34) (hj : j ≠ i) : newM M i o x k j = M k j := by
  have e : ∀ (M : Mem) (f : Nat) (y : Int32), up2 M f i y k j = M k j := fun M f y => by
    unfold up2
    split
    · rename_i q
      subst q
      exact if_neg hj
    · rfl
  unfold newM
  rw [up2_ne (by split <;> omega), e, e, e, e, e, up2_ne (by omega)]
theorem mkR_v {M M2 : Mem} {p f : Nat} {lm : Nat → Nat} {x : Int32} {v : Option Value} (h : mkR M p f lm x v M2) : v = some (.int (-1)) ∨ ∃ i, i < 1500 ∧ v = some (.int (nI i)) := by
  rcases h with ⟨-, -, h⟩ | ⟨M1, -, ⟨-, i, hi, h, -⟩ | ⟨-, ⟨-, h⟩ | ⟨M3, i, -, hi, h, -⟩⟩⟩
  · exact Or.inl h
  · exact Or.inr ⟨i, hi.1, h⟩
  · exact Or.inl h
  · exact Or.inr ⟨i, hi.1, h⟩
theorem mkR_keep {M M2 : Mem} {p f : Nat} {lm : Nat → Nat} {x : Int32} {v : Option Value} (h : mkR M p f lm x v M2) {k j : Nat} (hk : k < 29 ∨ (33 < k ∧ k < 37) ∨ 46 < k) : M2 k j = M k j := by
  have hk2 : kpt k := by unfold kpt; omega
  rcases h with ⟨-, h, -⟩ | ⟨M1, hM1, h⟩
  · exact minR_keep h hk2
  · have e1 : M1 k j = M k j := by
      rcases hM1 with ⟨-, rfl⟩ | ⟨-, hM1⟩
      · rfl
      · exact minR_keep hM1 hk2
    rw [← e1]
    rcases h with ⟨-, i, hi, -, rfl⟩ | ⟨-, ⟨h, -⟩ | ⟨M3, i, h, hi, -, rfl⟩⟩
    · exact newM_keep (by omega)
    · exact ghR_keep h hk2
    · rw [newM_keep (by omega)]
      exact ghR_keep h hk2
theorem mkR_keep2 {M M2 : Mem} {p f : Nat} {lm : Nat → Nat} {x : Int32} {i0 : Nat} (h0 : i0 < 1500) (h : mkR M p f lm x (some (.int (nI i0))) M2) {k j : Nat} (hk : 30 < k ∧ k < 34) (hj : j ≠ i0) : M2 k j = M k j := by
  have hk2 : kpt k := by unfold kpt; omega
  have inj : ∀ i, i < 1500 → some (Value.int (nI i0)) = some (.int (nI i)) → i0 = i := fun i hi q => by
    injection q with q
    injection q with q
    exact (nI_eq (by omega) (by omega)).mp q
  rcases h with ⟨-, h, -⟩ | ⟨M1, hM1, h⟩
  · exact minR_keep h hk2
  · have e1 : M1 k j = M k j := by
      rcases hM1 with ⟨-, rfl⟩ | ⟨-, hM1⟩
      · rfl
      · exact minR_keep hM1 hk2
    rw [← e1]
    rcases h with ⟨-, i, hi, hv, rfl⟩ | ⟨-, ⟨h, -⟩ | ⟨M3, i, h, hi, hv, rfl⟩⟩
    · exact newM_ne (by omega) (fun q => hj (q.trans (inj i hi.1 hv).symm))
    · exact ghR_keep h hk2
    · rw [newM_ne (by omega) (fun q => hj (q.trans (inj i hi.1 hv).symm))]
      exact ghR_keep h hk2
theorem maj_root {M : Mem} {p f : Nat} {lm : Nat → Nat} {L : List Nat} {b : Int32} {i : Nat} (hL : isR M p f lm b L) (hi : i < 1500) (hr : rootR M p f lm i) : majM M L 29 i = M 29 i := by
  have hm : i ∈ L := (hL i hi).mpr ⟨hi, 0, Or.inl hr⟩
  show (if i < 1500 ∧ frJ M L i = true then (0 : Int32) else M 29 i) = M 29 i
  rw [if_neg]
  rintro ⟨-, h⟩
  unfold frJ at h
  simp [hm] at h
theorem min_root {M : Mem} {p f : Nat} {lm : Nat → Nat} {L : List Nat} {b x : Int32} {i : Nat} (hL : isR M p f lm b L) (hi : i < 1500) (hr : rootR M p f lm i) : minM M L x 29 i = M 29 i := by
  have hm : i ∈ L := (hL i hi).mpr ⟨hi, 0, Or.inl hr⟩
  show (if i < 1500 ∧ frN M L i = true then (0 : Int32) else M 29 i) = M 29 i
  rw [if_neg]
  rintro ⟨-, h⟩
  unfold frN at h
  simp [hm] at h
theorem minR_root {M M2 : Mem} {p f : Nat} {lm : Nat → Nat} {v : Option Value} {i : Nat} (h : minR M p f lm v M2) (hi : i < 1500) (hr : rootR M p f lm i) : M2 29 i = M 29 i := by
  rcases h with ⟨L, hL, -, -, he⟩ | ⟨L, L0, L2, -, -, hL0, hL2, ⟨-, -, he⟩ | ⟨-, -, he⟩⟩
  · rw [he 29 i (by omega), min_root hL hi hr]
  · rw [he 29 i (by omega), min_root hL2 hi hr, maj_root hL0 hi hr]
  · rw [he 29 i (by omega), maj_root hL0 hi hr]
theorem ghR_root {M M2 : Mem} {p f : Nat} {lm : Nat → Nat} {x : Int32} {v : Option Value} {i : Nat} (h : ghR M p f lm x v M2) (hi : i < 1500) (hr : rootR M p f lm i) : M2 29 i = M 29 i := by
  rcases h with ⟨-, -, he⟩ | ⟨-, L0, hL0, he, -⟩
  · rw [he 29 i (by omega)]
  · rw [he 29 i (by omega), maj_root hL0 hi hr]
theorem rootR_keep {M M2 : Mem} {p f : Nat} {lm : Nat → Nat} (h : ∀ k j, k < 29 → M2 k j = M k j) (i : Nat) : rootR M2 p f lm i ↔ rootR M p f lm i := by
  unfold rootR
  simp only [h 12 _ (by omega), h 13 _ (by omega), h 17 _ (by omega), h 18 _ (by omega), h 20 _ (by omega), h 21 _ (by omega), h 23 _ (by omega), h 24 _ (by omega), h 25 _ (by omega)]
theorem mkR_other {M M2 : Mem} {p f : Nat} {lm : Nat → Nat} {x : Int32} {i0 i : Nat} (h0 : i0 < 1500) (h : mkR M p f lm x (some (.int (nI i0))) M2) (hi : i < 1500) (hr : rootR M p f lm i) (hl : 0 < M 29 i) : i ≠ i0 := by
  have inj : ∀ i, i < 1500 → some (Value.int (nI i0)) = some (.int (nI i)) → i0 = i := fun i hi q => by
    injection q with q
    injection q with q
    exact (nI_eq (by omega) (by omega)).mp q
  have no : ¬ some (Value.int (nI i0)) = some (.int (-1)) := fun q => by
    injection q with q
    injection q with q
    have := nI_pos (n := i0) (by omega)
    rw [q] at this
    exact this (by decide)
  rcases h with ⟨-, -, h⟩ | ⟨M1, hM1, h⟩
  · exact absurd h no
  · have e1 : M1 29 i = M 29 i ∧ ∀ k j, k < 29 → M1 k j = M k j := by
      rcases hM1 with ⟨-, rfl⟩ | ⟨-, hM1⟩
      · exact ⟨rfl, fun _ _ _ => rfl⟩
      · exact ⟨minR_root hM1 hi hr, fun k j hk => minR_keep hM1 (Or.inl hk)⟩
    rcases h with ⟨-, q, hq, hv, -⟩ | ⟨-, ⟨-, h⟩ | ⟨M3, q, h, hq, hv, -⟩⟩
    · intro e
      have := inj q hq.1 hv
      subst this
      subst e
      exact hq.2.1 (by rw [e1.1]; exact hl)
    · exact absurd h no
    · intro e
      have := inj q hq.1 hv
      subst this
      subst e
      refine hq.2.1 ?_
      rw [ghR_root h hi ((rootR_keep e1.2 _).mpr hr), e1.1]
      exact hl
def frsR (M : Mem) (p f : Nat) (lm : Nat → Nat) (a s : Nat) (c : Int32) (v : Option Value) (M' : Mem) : Prop := ∃ v1 M2, mkR M p f lm (nI 3) v1 M2 ∧ ((v1 = some (.int (-1)) ∧ v = some (.int (nI 8)) ∧ M' = up2 M2 9 0 (nI 8)) ∨ ∃ i, i < 1500 ∧ v1 = some (.int (nI i)) ∧ v = some (.int 0) ∧ M' = welM (pushM (lowM (up2 M2 31 i c) (p - 1)) (p - 1) (nI 2) (nI i)) (nI (a + 1)) s)
theorem r_fresh3 {d : Nat} {M : Mem} {p : Nat} (hp : M 14 0 = nI p) (hp1 : p ≤ 1000) (hp0 : 0 < p) (hk : ¬ M 12 (p - 1 - 0) = nI 2) (hk0 : ¬ M 12 (p - 1 - 0) = 0) : CalR (d + 6) j_X9_fresh [.ref 0] M (some (.int (nI 3))) (up2 M 9 0 (nI 3)) := by
  refine CalR_of (md := md_X9_fresh) (d := d + 5) rfl (Nat.le_of_ble_eq_true rfl) ?_
  show WR (CalR (d + 5)) t_X9_fresh 9 (some .int) _ 0 [(0, .ref 0)] [] _
  refine R_aload_n rfl rfl ?_
  refine R_iconst (y := nI 0) rfl (by decide) ?_
  refine R_virt rfl rfl rfl rfl rfl rfl rfl (Nat.le_of_ble_eq_true rfl) (fun _ q => by cases q) (r_topKind (by first | assumption | rfl) (by omega) (by omega)) ?_
  try refine R_top (y := nI _) (by assumption) ?_
  refine R_iconst (y := nI 2) rfl (by decide) ?_
  refine R_icF rfl (by first | assumption | exact icF (by decide) | exact ic_F (by omega) (by omega) (by simp only [icN, not_true_eq_false, not_false_eq_true] <;> omega) | exact ic_F0 (by omega) (by simp only [icN, not_true_eq_false, not_false_eq_true] <;> omega)) ?_
  refine R_aload_n rfl rfl ?_
  refine R_iconst (y := nI 0) rfl (by decide) ?_
  refine R_virt rfl rfl rfl rfl rfl rfl rfl (Nat.le_of_ble_eq_true rfl) (fun _ q => by cases q) (r_topKind (by first | assumption | rfl) (by omega) (by omega)) ?_
  try refine R_top (y := nI _) (by assumption) ?_
  refine R_ifF rfl (hk0) ?_
  refine R_aload_n rfl rfl ?_
  refine R_iconst (y := nI 3) rfl (by decide) ?_
  refine R_virt rfl rfl rfl rfl rfl rfl rfl (Nat.le_of_ble_eq_true rfl) (fun _ q => by cases q) (r_ends) ?_
  try refine R_top (y := nI _) (by assumption) ?_
  exact R_iret rfl rfl (by first | trivial | exact Or.inl rfl | exact Or.inr rfl | assumption) ⟨rfl, rfl⟩
theorem r_fresh {d : Nat} {M : Mem} {p f a s : Nat} {lm : Nat → Nat} {c : Int32} (hw : wfR M p f lm) (hfr : ∃ i, i < 1500 ∧ ¬ 0 < M 29 i) (hp0 : 0 < p) (ha : M 10 0 = nI a) (hs : M 11 0 = nI s) (hk : (M 12 (p - 1 - 0) = nI 2 ∧ c = M 13 (p - 1 - 0)) ∨ (M 12 (p - 1 - 0) = nI 0 ∧ c = -1)) : CQ (d + 6) j_X9_fresh [.ref 0] M (frsR M p f lm a s c) := by
  have hp := hw.1
  have hp1 := hw.2.1
  have rest : ∀ v1 M2, mkR M p f lm (nI 3) v1 M2 → WR (CalR (d + 5)) t_X9_fresh 9 (some .int) (frsR M p f lm a s c) 28 [(0, .ref 0)] (v1.toList ++ []) M2 := by
    intro v1 M2 hm
    have k14 : M2 14 0 = nI p := (mkR_keep hm (by omega)).trans hp
    have k10 : M2 10 0 = nI a := (mkR_keep hm (by omega)).trans ha
    have k11 : M2 11 0 = nI s := (mkR_keep hm (by omega)).trans hs
    have k12 : M2 12 (p - 1 - 0) = M 12 (p - 1 - 0) := mkR_keep hm (by omega)
    have k13 : M2 13 (p - 1 - 0) = M 13 (p - 1 - 0) := mkR_keep hm (by omega)
    rcases mkR_v hm with rfl | ⟨i, hi, rfl⟩
    · show WR (CalR (d + 5)) t_X9_fresh 9 (some .int) (frsR M p f lm a s c) 28 [(0, .ref 0)] [.int (-1)] M2
      refine R_istore_n (lv' := [(1, _), (0, _)]) rfl rfl ?_
      refine R_iload_n rfl rfl ?_
      refine R_ifF rfl (by first | assumption | exact icF (by decide) | exact ic_F (by omega) (by omega) (by simp only [icN, not_true_eq_false, not_false_eq_true] <;> omega) | exact ic_F0 (by omega) (by simp only [icN, not_true_eq_false, not_false_eq_true] <;> omega)) ?_
      refine R_aload_n rfl rfl ?_
      refine R_bipush (y := nI 8) rfl (by decide) ?_
      refine R_virt rfl rfl rfl rfl rfl rfl rfl (Nat.le_of_ble_eq_true rfl) (fun _ q => by cases q) (r_ends) ?_
      try refine R_top (y := nI _) (by assumption) ?_
      exact R_iret rfl rfl trivial ⟨_, _, hm, Or.inl ⟨rfl, rfl, rfl⟩⟩
    · show WR (CalR (d + 5)) t_X9_fresh 9 (some .int) (frsR M p f lm a s c) 28 [(0, .ref 0)] [.int (nI i)] M2
      rcases hk with ⟨h1, rfl⟩ | ⟨h1, rfl⟩
      · rw [h1] at k12
        refine R_istore_n (lv' := [(1, _), (0, _)]) rfl rfl ?_
        refine R_iload_n rfl rfl ?_
        refine R_ifT (pc' := 40) rfl rfl (by first | assumption | exact icT (by decide) | exact ic_T (by omega) (by omega) (by simp only [icN, not_true_eq_false, not_false_eq_true] <;> omega) | exact ic_T0 (by omega) (by simp only [icN, not_true_eq_false, not_false_eq_true] <;> omega)) ?_
        refine R_aload_n rfl rfl ?_
        refine R_getA rfl rfl (Or.inl rfl) ?_
        refine R_iload_n rfl rfl ?_
        refine R_aload_n rfl rfl ?_
        refine R_iconst (y := nI 0) rfl (by decide) ?_
        refine R_virt rfl rfl rfl rfl rfl rfl rfl (Nat.le_of_ble_eq_true rfl) (fun _ q => by cases q) (r_topKind (by first | assumption | rfl) (by omega) (by omega)) ?_
        try refine R_top (y := nI _) (by assumption) ?_
        refine R_iconst (y := nI 2) rfl (by decide) ?_
        refine R_icF rfl (by first | assumption | exact icF (by decide) | exact ic_F (by omega) (by omega) (by simp only [icN, not_true_eq_false, not_false_eq_true] <;> omega) | exact ic_F0 (by omega) (by simp only [icN, not_true_eq_false, not_false_eq_true] <;> omega)) ?_
        refine R_aload_n rfl rfl ?_
        refine R_iconst (y := nI 0) rfl (by decide) ?_
        refine R_virt rfl rfl rfl rfl rfl rfl rfl (Nat.le_of_ble_eq_true rfl) (fun _ q => by cases q) (r_topNumber (by first | assumption | rfl) (by omega) (by omega)) ?_
        try refine R_top (y := nI _) (by assumption) ?_
        refine R_goto (pc' := 63) rfl rfl ?_
        refine R_top k13 ?_
        refine R_iast rfl rfl rfl (show _ < 1500 from by omega) ?_
        refine R_aload_n rfl rfl ?_
        refine R_dup rfl ?_
        refine R_getI rfl rfl (Or.inl rfl) ?_
        try refine R_top (y := nI _) (by assumption) ?_
        refine R_iconst (y := nI 1) rfl (by decide) ?_
        first | refine R_isubN rfl (by omega) ?_ | refine R_isub rfl ?_
        refine R_put rfl rfl rfl ?_
        refine R_aload_n rfl rfl ?_
        refine R_iconst (y := nI 2) rfl (by decide) ?_
        refine R_iload_n rfl rfl ?_
        refine R_virt rfl rfl rfl rfl rfl rfl rfl (Nat.le_of_ble_eq_true rfl) (fun _ q => by cases q) (r_push (by first | assumption | rfl) (by omega)) ?_
        refine R_aload_n rfl rfl ?_
        refine R_aload_n rfl rfl ?_
        refine R_getI rfl rfl (Or.inl rfl) ?_
        try refine R_top (y := nI _) (by assumption) ?_
        refine R_iconst (y := nI 1) rfl (by decide) ?_
        first | refine R_iaddN rfl ?_ | refine R_iadd rfl ?_
        refine R_virt rfl rfl rfl rfl rfl rfl rfl (Nat.le_of_ble_eq_true rfl) (fun _ q => by cases q) (r_well (by assumption)) ?_
        try refine R_top (y := nI _) (by assumption) ?_
        exact R_iret rfl rfl trivial ⟨_, _, hm, Or.inr ⟨i, hi, rfl, rfl, rfl⟩⟩
      · rw [h1] at k12
        refine R_istore_n (lv' := [(1, _), (0, _)]) rfl rfl ?_
        refine R_iload_n rfl rfl ?_
        refine R_ifT (pc' := 40) rfl rfl (by first | assumption | exact icT (by decide) | exact ic_T (by omega) (by omega) (by simp only [icN, not_true_eq_false, not_false_eq_true] <;> omega) | exact ic_T0 (by omega) (by simp only [icN, not_true_eq_false, not_false_eq_true] <;> omega)) ?_
        refine R_aload_n rfl rfl ?_
        refine R_getA rfl rfl (Or.inl rfl) ?_
        refine R_iload_n rfl rfl ?_
        refine R_aload_n rfl rfl ?_
        refine R_iconst (y := nI 0) rfl (by decide) ?_
        refine R_virt rfl rfl rfl rfl rfl rfl rfl (Nat.le_of_ble_eq_true rfl) (fun _ q => by cases q) (r_topKind (by first | assumption | rfl) (by omega) (by omega)) ?_
        try refine R_top (y := nI _) (by assumption) ?_
        refine R_iconst (y := nI 2) rfl (by decide) ?_
        refine R_icT (pc' := 62) rfl rfl (by first | assumption | exact icT (by decide) | exact ic_T (by omega) (by omega) (by simp only [icN, not_true_eq_false, not_false_eq_true] <;> omega) | exact ic_T0 (by omega) (by simp only [icN, not_true_eq_false, not_false_eq_true] <;> omega)) ?_
        refine R_iconst (y := (-1)) rfl (by decide) ?_
        refine R_iast rfl rfl rfl (show _ < 1500 from by omega) ?_
        refine R_aload_n rfl rfl ?_
        refine R_dup rfl ?_
        refine R_getI rfl rfl (Or.inl rfl) ?_
        try refine R_top (y := nI _) (by assumption) ?_
        refine R_iconst (y := nI 1) rfl (by decide) ?_
        first | refine R_isubN rfl (by omega) ?_ | refine R_isub rfl ?_
        refine R_put rfl rfl rfl ?_
        refine R_aload_n rfl rfl ?_
        refine R_iconst (y := nI 2) rfl (by decide) ?_
        refine R_iload_n rfl rfl ?_
        refine R_virt rfl rfl rfl rfl rfl rfl rfl (Nat.le_of_ble_eq_true rfl) (fun _ q => by cases q) (r_push (by first | assumption | rfl) (by omega)) ?_
        refine R_aload_n rfl rfl ?_
        refine R_aload_n rfl rfl ?_
        refine R_getI rfl rfl (Or.inl rfl) ?_
        try refine R_top (y := nI _) (by assumption) ?_
        refine R_iconst (y := nI 1) rfl (by decide) ?_
        first | refine R_iaddN rfl ?_ | refine R_iadd rfl ?_
        refine R_virt rfl rfl rfl rfl rfl rfl rfl (Nat.le_of_ble_eq_true rfl) (fun _ q => by cases q) (r_well (by assumption)) ?_
        try refine R_top (y := nI _) (by assumption) ?_
        exact R_iret rfl rfl trivial ⟨_, _, hm, Or.inr ⟨i, hi, rfl, rfl, rfl⟩⟩
  rcases id hk with ⟨h1, -⟩ | ⟨h1, -⟩
  · refine CQ_of (md := md_X9_fresh) (d := d + 5) rfl (Nat.le_of_ble_eq_true rfl) ?_
    show WR (CalR (d + 5)) t_X9_fresh 9 (some .int) _ 0 [(0, .ref 0)] [] _
    refine R_aload_n rfl rfl ?_
    refine R_iconst (y := nI 0) rfl (by decide) ?_
    refine R_virt rfl rfl rfl rfl rfl rfl rfl (Nat.le_of_ble_eq_true rfl) (fun _ q => by cases q) (r_topKind (by first | assumption | rfl) (by omega) (by omega)) ?_
    try refine R_top (y := nI _) (by assumption) ?_
    refine R_iconst (y := nI 2) rfl (by decide) ?_
    refine R_icT (pc' := 23) rfl rfl (by first | assumption | exact icT (by decide) | exact ic_T (by omega) (by omega) (by simp only [icN, not_true_eq_false, not_false_eq_true] <;> omega) | exact ic_T0 (by omega) (by simp only [icN, not_true_eq_false, not_false_eq_true] <;> omega)) ?_
    refine R_aload_n rfl rfl ?_
    refine R_iconst (y := nI 3) rfl (by decide) ?_
    refine R_vq rfl rfl rfl rfl rfl rfl rfl (Nat.le_of_ble_eq_true rfl) (r_make hw hfr) ?_
    exact rest
  · refine CQ_of (md := md_X9_fresh) (d := d + 5) rfl (Nat.le_of_ble_eq_true rfl) ?_
    show WR (CalR (d + 5)) t_X9_fresh 9 (some .int) _ 0 [(0, .ref 0)] [] _
    refine R_aload_n rfl rfl ?_
    refine R_iconst (y := nI 0) rfl (by decide) ?_
    refine R_virt rfl rfl rfl rfl rfl rfl rfl (Nat.le_of_ble_eq_true rfl) (fun _ q => by cases q) (r_topKind (by first | assumption | rfl) (by omega) (by omega)) ?_
    try refine R_top (y := nI _) (by assumption) ?_
    refine R_iconst (y := nI 2) rfl (by decide) ?_
    refine R_icF rfl (by first | assumption | exact icF (by decide) | exact ic_F (by omega) (by omega) (by simp only [icN, not_true_eq_false, not_false_eq_true] <;> omega) | exact ic_F0 (by omega) (by simp only [icN, not_true_eq_false, not_false_eq_true] <;> omega)) ?_
    refine R_aload_n rfl rfl ?_
    refine R_iconst (y := nI 0) rfl (by decide) ?_
    refine R_virt rfl rfl rfl rfl rfl rfl rfl (Nat.le_of_ble_eq_true rfl) (fun _ q => by cases q) (r_topKind (by first | assumption | rfl) (by omega) (by omega)) ?_
    try refine R_top (y := nI _) (by assumption) ?_
    refine R_ifT (pc' := 23) rfl rfl (by first | assumption | exact icT (by decide) | exact ic_T (by omega) (by omega) (by simp only [icN, not_true_eq_false, not_false_eq_true] <;> omega) | exact ic_T0 (by omega) (by simp only [icN, not_true_eq_false, not_false_eq_true] <;> omega)) ?_
    refine R_aload_n rfl rfl ?_
    refine R_iconst (y := nI 3) rfl (by decide) ?_
    refine R_vq rfl rfl rfl rfl rfl rfl rfl (Nat.le_of_ble_eq_true rfl) (r_make hw hfr) ?_
    exact rest
