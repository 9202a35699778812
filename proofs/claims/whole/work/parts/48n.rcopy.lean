/-! ===== the reference: copy, set ===== -/
def cps (M : Mem) (i2 i1 n : Nat) : Mem := fun k => if k = 34 ∨ k = 35 ∨ k = 36 then (fun j => if 40 * i2 ≤ j ∧ j < 40 * i2 + n then M k (40 * i1 + (j - 40 * i2)) else M k j) else M k
theorem cps_0 (M : Mem) (i2 i1 : Nat) : cps M i2 i1 0 = M := by
  funext k j
  unfold cps
  split
  · exact if_neg (by omega)
  · rfl
theorem cps_at {M : Mem} {i2 i1 n k j : Nat} (h : ¬ (40 * i2 ≤ j ∧ j < 40 * i2 + n)) : cps M i2 i1 n k j = M k j := by
  unfold cps
  split
  · exact if_neg h
  · rfl
theorem cps_s (M : Mem) (i2 i1 e : Nat) : up2 (up2 (up2 (cps M i2 i1 e) 34 (40 * i2 + e) (M 34 (40 * i1 + e))) 35 (40 * i2 + e) (M 35 (40 * i1 + e))) 36 (40 * i2 + e) (M 36 (40 * i1 + e)) = cps M i2 i1 (e + 1) := by
  funext k j
  have base : ∀ k', (k' = 34 ∨ k' = 35 ∨ k' = 36) → upd (cps M i2 i1 e k') (40 * i2 + e) (M k' (40 * i1 + e)) j = cps M i2 i1 (e + 1) k' j := by
    intro k' hk'
    unfold upd cps
    rw [if_pos hk', if_pos hk']
    by_cases hj : j = 40 * i2 + e
    · subst hj
      rw [if_pos rfl]
      refine Eq.trans ?_ (if_pos (by omega)).symm
      congr 1
      omega
    · rw [if_neg hj]
      by_cases h2 : 40 * i2 ≤ j ∧ j < 40 * i2 + e
      · exact (if_pos h2).trans (if_pos (by omega)).symm
      · exact (if_neg h2).trans (if_neg (by omega)).symm
  by_cases h6 : k = 36
  · subst h6; exact base 36 (by omega)
  · by_cases h5 : k = 35
    · subst h5; exact base 35 (by omega)
    · by_cases h4 : k = 34
      · subst h4; exact base 34 (by omega)
      · unfold up2
        rw [if_neg h6, if_neg h5, if_neg h4]
        unfold cps
        rw [if_neg (by omega), if_neg (by omega)]
def cpyR (M : Mem) (p f : Nat) (lm : Nat → Nat) (a s i1 n : Nat) (v : Option Value) (M' : Mem) : Prop := ∃ v1 M2, mkR M p f lm (nI (3 + n)) v1 M2 ∧ ((v1 = some (.int (-1)) ∧ v = some (.int (nI 8)) ∧ M' = up2 M2 9 0 (nI 8)) ∨ ∃ i, i < 1500 ∧ v1 = some (.int (nI i)) ∧ v = some (.int 0) ∧ M' = welM (pushM (lowM (cps (up2 (up2 M2 31 i (M2 31 i1)) 32 i (nI n)) i i1 n) (p - 1)) (p - 1) (nI 2) (nI i)) (nI (a + 1)) s)
theorem r_copy3 {d : Nat} {M : Mem} {p : Nat} (hp : M 14 0 = nI p) (hp1 : p ≤ 1000) (hp0 : 0 < p) (hk : ¬ M 12 (p - 1 - 0) = nI 2) : CalR (d + 6) j_X9_copy [.ref 0] M (some (.int (nI 3))) (up2 M 9 0 (nI 3)) := by
  refine CalR_of (md := md_X9_copy) (d := d + 5) rfl (Nat.le_of_ble_eq_true rfl) ?_
  show WR (CalR (d + 5)) t_X9_copy 9 (some .int) _ 0 [(0, .ref 0)] [] _
  refine R_aload_n rfl rfl ?_
  refine R_iconst (y := nI 0) rfl (by decide) ?_
  refine R_virt rfl rfl rfl rfl rfl rfl rfl (Nat.le_of_ble_eq_true rfl) (fun _ q => by cases q) (r_topKind (by first | assumption | rfl) (by omega) (by omega)) ?_
  try refine R_top (y := nI _) (by assumption) ?_
  refine R_iconst (y := nI 2) rfl (by decide) ?_
  refine R_icF rfl (by first | assumption | exact icF (by decide) | exact ic_F (by omega) (by omega) (by simp only [icN, not_true_eq_false, not_false_eq_true] <;> omega) | exact ic_F0 (by omega) (by simp only [icN, not_true_eq_false, not_false_eq_true] <;> omega)) ?_
  refine R_aload_n rfl rfl ?_
  refine R_iconst (y := nI 3) rfl (by decide) ?_
  refine R_virt rfl rfl rfl rfl rfl rfl rfl (Nat.le_of_ble_eq_true rfl) (fun _ q => by cases q) (r_ends) ?_
  try refine R_top (y := nI _) (by assumption) ?_
  exact R_iret rfl rfl (by first | trivial | exact Or.inl rfl | exact Or.inr rfl | assumption) ⟨rfl, rfl⟩
theorem r_copy {d : Nat} {M : Mem} {p f a s i1 n : Nat} {lm : Nat → Nat} (hw : wfR M p f lm) (hfr : ∃ i, i < 1500 ∧ ¬ 0 < M 29 i) (hp0 : 0 < p) (ha : M 10 0 = nI a) (hs : M 11 0 = nI s) (hk : M 12 (p - 1 - 0) = nI 2) (hi : M 13 (p - 1 - 0) = nI i1) (hi1 : i1 < 1500) (hl : 0 < M 29 i1) (hn : M 32 i1 = nI n) (hn4 : n ≤ 40) : CQ (d + 6) j_X9_copy [.ref 0] M (cpyR M p f lm a s i1 n) := by
  have hp := hw.1
  have hp1 := hw.2.1
  refine CQ_of (md := md_X9_copy) (d := d + 5) rfl (Nat.le_of_ble_eq_true rfl) ?_
  show WR (CalR (d + 5)) t_X9_copy 9 (some .int) _ 0 [(0, .ref 0)] [] _
  refine R_aload_n rfl rfl ?_
  refine R_iconst (y := nI 0) rfl (by decide) ?_
  refine R_virt rfl rfl rfl rfl rfl rfl rfl (Nat.le_of_ble_eq_true rfl) (fun _ q => by cases q) (r_topKind (by first | assumption | rfl) (by omega) (by omega)) ?_
  try refine R_top (y := nI _) (by assumption) ?_
  refine R_iconst (y := nI 2) rfl (by decide) ?_
  refine R_icT (pc' := 15) rfl rfl (by first | assumption | exact icT (by decide) | exact ic_T (by omega) (by omega) (by simp only [icN, not_true_eq_false, not_false_eq_true] <;> omega) | exact ic_T0 (by omega) (by simp only [icN, not_true_eq_false, not_false_eq_true] <;> omega)) ?_
  refine R_aload_n rfl rfl ?_
  refine R_iconst (y := nI 0) rfl (by decide) ?_
  refine R_virt rfl rfl rfl rfl rfl rfl rfl (Nat.le_of_ble_eq_true rfl) (fun _ q => by cases q) (r_topNumber (by first | assumption | rfl) (by omega) (by omega)) ?_
  try refine R_top (y := nI _) (by assumption) ?_
  refine R_istore_n (lv' := [(1, _), (0, _)]) rfl rfl ?_
  refine R_aload_n rfl rfl ?_
  refine R_aload_n rfl rfl ?_
  refine R_iload_n rfl rfl ?_
  refine R_virt rfl rfl rfl rfl rfl rfl rfl (Nat.le_of_ble_eq_true rfl) (fun _ q => by cases q) (r_sizeOf hi1 hn) ?_
  try refine R_top (y := nI _) (by assumption) ?_
  refine R_vq rfl rfl rfl rfl rfl rfl rfl (Nat.le_of_ble_eq_true rfl) (r_make hw hfr) ?_
  intro v1 M2 hm
  have k14 : M2 14 0 = nI p := (mkR_keep hm (by omega)).trans hp
  have k10 : M2 10 0 = nI a := (mkR_keep hm (by omega)).trans ha
  have k11 : M2 11 0 = nI s := (mkR_keep hm (by omega)).trans hs
  rcases mkR_v hm with rfl | ⟨i, hi15, rfl⟩
  · show WR (CalR (d + 5)) t_X9_copy 9 (some .int) (cpyR M p f lm a s i1 n) 30 [(1, .int (nI i1)), (0, .ref 0)] [.int (-1)] M2
    refine R_istore_n (lv' := [(2, _), (1, _), (0, _)]) rfl rfl ?_
    refine R_iload_n rfl rfl ?_
    refine R_ifF rfl (by first | assumption | exact icF (by decide) | exact ic_F (by omega) (by omega) (by simp only [icN, not_true_eq_false, not_false_eq_true] <;> omega) | exact ic_F0 (by omega) (by simp only [icN, not_true_eq_false, not_false_eq_true] <;> omega)) ?_
    refine R_aload_n rfl rfl ?_
    refine R_bipush (y := nI 8) rfl (by decide) ?_
    refine R_virt rfl rfl rfl rfl rfl rfl rfl (Nat.le_of_ble_eq_true rfl) (fun _ q => by cases q) (r_ends) ?_
    try refine R_top (y := nI _) (by assumption) ?_
    exact R_iret rfl rfl trivial ⟨_, _, hm, Or.inl ⟨rfl, rfl, rfl⟩⟩
  · show WR (CalR (d + 5)) t_X9_copy 9 (some .int) (cpyR M p f lm a s i1 n) 30 [(1, .int (nI i1)), (0, .ref 0)] [.int (nI i)] M2
    have hr : rootR M p f lm i1 := Or.inl ⟨p - 1 - 0, by omega, hk, hi⟩
    have hne : i1 ≠ i := mkR_other hi15 hm hi1 hr hl
    have k32 : M2 32 i1 = nI n := (mkR_keep2 hi15 hm (by omega) hne).trans hn
    have kk : (up2 M2 31 i (M2 31 i1)) 32 i1 = nI n := k32
    have hQ : ∀ M', M' = welM (pushM (lowM (cps (up2 (up2 M2 31 i (M2 31 i1)) 32 i (nI n)) i i1 n) (p - 1)) (p - 1) (nI 2) (nI i)) (nI (a + 1)) s → cpyR M p f lm a s i1 n (some (.int 0)) M' := fun M' e => ⟨_, _, hm, Or.inr ⟨i, hi15, rfl, rfl, e⟩⟩
    generalize cpyR M p f lm a s i1 n = Q at hQ ⊢
    refine R_istore_n (lv' := [(2, _), (1, _), (0, _)]) rfl rfl ?_
    refine R_iload_n rfl rfl ?_
    refine R_ifT (pc' := 42) rfl rfl (by first | assumption | exact icT (by decide) | exact ic_T (by omega) (by omega) (by simp only [icN, not_true_eq_false, not_false_eq_true] <;> omega) | exact ic_T0 (by omega) (by simp only [icN, not_true_eq_false, not_false_eq_true] <;> omega)) ?_
    refine R_aload_n rfl rfl ?_
    refine R_getA rfl rfl (Or.inl rfl) ?_
    refine R_iload_n rfl rfl ?_
    refine R_aload_n rfl rfl ?_
    refine R_getA rfl rfl (Or.inl rfl) ?_
    refine R_iload_n rfl rfl ?_
    refine R_iald rfl rfl rfl (show _ < 1500 from by omega) ?_
    try refine R_top (y := nI _) (by assumption) ?_
    refine R_iast rfl rfl rfl (show _ < 1500 from by omega) ?_
    refine R_aload_n rfl rfl ?_
    refine R_getA rfl rfl (Or.inl rfl) ?_
    refine R_iload_n rfl rfl ?_
    refine R_aload_n rfl rfl ?_
    refine R_getA rfl rfl (Or.inl rfl) ?_
    refine R_iload_n rfl rfl ?_
    refine R_iald rfl rfl rfl (show _ < 1500 from by omega) ?_
    try refine R_top (y := nI _) (by assumption) ?_
    refine R_iast rfl rfl rfl (show _ < 1500 from by omega) ?_
    refine R_iconst (y := nI 0) rfl (by decide) ?_
    refine R_istore_n (lv' := [(3, _), (2, _), (1, _), (0, _)]) rfl rfl ?_
    have j14 : (up2 (up2 M2 31 i (M2 31 i1)) 32 i (nI n)) 14 0 = nI p := k14
    have j10 : (up2 (up2 M2 31 i (M2 31 i1)) 32 i (nI n)) 10 0 = nI a := k10
    have j11 : (up2 (up2 M2 31 i (M2 31 i1)) 32 i (nI n)) 11 0 = nI s := k11
    have j32 : (up2 (up2 M2 31 i (M2 31 i1)) 32 i (nI n)) 32 i1 = nI n := (if_neg hne).trans k32
    generalize up2 (up2 M2 31 i (M2 31 i1)) 32 i (nI n) = M3 at j14 j10 j11 j32 hQ ⊢
    refine WR_eq (cps_0 M3 i i1).symm ?_
    refine dn_up (P := fun e => WR (CalR (d + 5)) t_X9_copy 9 (some .int) Q 68 [(3, .int (nI e)), (2, .int (nI i)), (1, .int (nI i1)), (0, .ref 0)] [] (cps M3 i i1 e)) (N := n) ?_ ?_ 0 (Nat.zero_le _)
    · have e14 : (cps M3 i i1 n) 14 0 = nI p := j14
      have e10 : (cps M3 i i1 n) 10 0 = nI a := j10
      have e11 : (cps M3 i i1 n) 11 0 = nI s := j11
      have e32 : (cps M3 i i1 n) 32 i1 = nI n := j32
      generalize cps M3 i i1 n = M4 at e14 e10 e11 e32 hQ ⊢
      refine R_iload_n rfl rfl ?_
      refine R_aload_n rfl rfl ?_
      refine R_getA rfl rfl (Or.inl rfl) ?_
      refine R_iload_n rfl rfl ?_
      refine R_iald rfl rfl rfl (show _ < 1500 from by omega) ?_
      try refine R_top (y := nI _) (by assumption) ?_
      refine R_icT (pc' := 150) rfl rfl (by first | assumption | exact icT (by decide) | exact ic_T (by omega) (by omega) (by simp only [icN, not_true_eq_false, not_false_eq_true] <;> omega) | exact ic_T0 (by omega) (by simp only [icN, not_true_eq_false, not_false_eq_true] <;> omega)) ?_
      refine R_aload_n rfl rfl ?_
      refine R_dup rfl ?_
      refine R_getI rfl rfl (Or.inl rfl) ?_
      try refine R_top (y := nI _) (by assumption) ?_
      refine R_iconst (y := nI 1) rfl (by decide) ?_
      first | refine R_isubN rfl (by omega) ?_ | refine R_isub rfl ?_
      refine R_put rfl rfl rfl ?_
      refine R_aload_n rfl rfl ?_
      refine R_iconst (y := nI 2) rfl (by decide) ?_
      refine R_iload_n rfl rfl ?_
      refine R_virt rfl rfl rfl rfl rfl rfl rfl (Nat.le_of_ble_eq_true rfl) (fun _ q => by cases q) (r_push (by first | assumption | rfl) (by omega)) ?_
      refine R_aload_n rfl rfl ?_
      refine R_aload_n rfl rfl ?_
      refine R_getI rfl rfl (Or.inl rfl) ?_
      try refine R_top (y := nI _) (by assumption) ?_
      refine R_iconst (y := nI 1) rfl (by decide) ?_
      first | refine R_iaddN rfl ?_ | refine R_iadd rfl ?_
      refine R_virt rfl rfl rfl rfl rfl rfl rfl (Nat.le_of_ble_eq_true rfl) (fun _ q => by cases q) (r_well (by assumption)) ?_
      try refine R_top (y := nI _) (by assumption) ?_
      exact R_iret rfl rfl trivial (hQ _ rfl)
    · intro e he nx
      have e32 : (cps M3 i i1 e) 32 i1 = nI n := j32
      have c4 : (cps M3 i i1 e) 34 (40 * i1 + e) = M3 34 (40 * i1 + e) := cps_at (by omega)
      have c5 : (cps M3 i i1 e) 35 (40 * i1 + e) = M3 35 (40 * i1 + e) := cps_at (by omega)
      have c6 : (cps M3 i i1 e) 36 (40 * i1 + e) = M3 36 (40 * i1 + e) := cps_at (by omega)
      rw [← cps_s, ← c4, ← c5, ← c6] at nx
      generalize cps M3 i i1 e = M4 at e32 nx ⊢
      refine R_iload_n rfl rfl ?_
      refine R_aload_n rfl rfl ?_
      refine R_getA rfl rfl (Or.inl rfl) ?_
      refine R_iload_n rfl rfl ?_
      refine R_iald rfl rfl rfl (show _ < 1500 from by omega) ?_
      try refine R_top (y := nI _) (by assumption) ?_
      refine R_icF rfl (by first | assumption | exact icF (by decide) | exact ic_F (by omega) (by omega) (by simp only [icN, not_true_eq_false, not_false_eq_true] <;> omega) | exact ic_F0 (by omega) (by simp only [icN, not_true_eq_false, not_false_eq_true] <;> omega)) ?_
      refine R_aload_n rfl rfl ?_
      refine R_getA rfl rfl (Or.inl rfl) ?_
      refine R_bipush (y := nI 40) rfl (by decide) ?_
      refine R_iload_n rfl rfl ?_
      first | refine R_imulN rfl ?_ | refine R_imul rfl ?_
      refine R_iload_n rfl rfl ?_
      first | refine R_iaddN rfl ?_ | refine R_iadd rfl ?_
      refine R_aload_n rfl rfl ?_
      refine R_getA rfl rfl (Or.inl rfl) ?_
      refine R_bipush (y := nI 40) rfl (by decide) ?_
      refine R_iload_n rfl rfl ?_
      first | refine R_imulN rfl ?_ | refine R_imul rfl ?_
      refine R_iload_n rfl rfl ?_
      first | refine R_iaddN rfl ?_ | refine R_iadd rfl ?_
      refine R_iald rfl rfl rfl (show _ < 60000 from by omega) ?_
      try refine R_top (y := nI _) (by assumption) ?_
      refine R_iast rfl rfl rfl (show _ < 60000 from by omega) ?_
      refine R_aload_n rfl rfl ?_
      refine R_getA rfl rfl (Or.inl rfl) ?_
      refine R_bipush (y := nI 40) rfl (by decide) ?_
      refine R_iload_n rfl rfl ?_
      first | refine R_imulN rfl ?_ | refine R_imul rfl ?_
      refine R_iload_n rfl rfl ?_
      first | refine R_iaddN rfl ?_ | refine R_iadd rfl ?_
      refine R_aload_n rfl rfl ?_
      refine R_getA rfl rfl (Or.inl rfl) ?_
      refine R_bipush (y := nI 40) rfl (by decide) ?_
      refine R_iload_n rfl rfl ?_
      first | refine R_imulN rfl ?_ | refine R_imul rfl ?_
      refine R_iload_n rfl rfl ?_
      first | refine R_iaddN rfl ?_ | refine R_iadd rfl ?_
      refine R_iald rfl rfl rfl (show _ < 60000 from by omega) ?_
      try refine R_top (y := nI _) (by assumption) ?_
      refine R_iast rfl rfl rfl (show _ < 60000 from by omega) ?_
      refine R_aload_n rfl rfl ?_
      refine R_getA rfl rfl (Or.inl rfl) ?_
      refine R_bipush (y := nI 40) rfl (by decide) ?_
      refine R_iload_n rfl rfl ?_
      first | refine R_imulN rfl ?_ | refine R_imul rfl ?_
      refine R_iload_n rfl rfl ?_
      first | refine R_iaddN rfl ?_ | refine R_iadd rfl ?_
      refine R_aload_n rfl rfl ?_
      refine R_getA rfl rfl (Or.inl rfl) ?_
      refine R_bipush (y := nI 40) rfl (by decide) ?_
      refine R_iload_n rfl rfl ?_
      first | refine R_imulN rfl ?_ | refine R_imul rfl ?_
      refine R_iload_n rfl rfl ?_
      first | refine R_iaddN rfl ?_ | refine R_iadd rfl ?_
      refine R_iald rfl rfl rfl (show _ < 60000 from by omega) ?_
      try refine R_top (y := nI _) (by assumption) ?_
      refine R_iast rfl rfl rfl (show _ < 60000 from by omega) ?_
      refine R_iinc (lv' := [(3, _), (2, _), (1, _), (0, _)]) rfl rfl (by exact nI_1 _) rfl ?_
      refine R_goto (pc' := 68) rfl rfl ?_
      exact nx
theorem wdR_keep {M M2 : Mem} {p f : Nat} {lm : Nat → Nat} {i : Nat} {v : Option Value} (h : wdR M p f lm i v M2) {k j : Nat} (hk : kpt k) : M2 k j = M k j := by
  have hk' := hk
  unfold kpt at hk'
  rcases h with ⟨-, h, -⟩ | ⟨M1, h1, h⟩
  · exact minR_keep h hk
  · have e1 : M1 k j = M k j := by
      rcases h1 with ⟨-, rfl⟩ | ⟨-, hM1⟩
      · rfl
      · exact minR_keep hM1 hk
    rw [← e1]
    rcases h with ⟨-, rfl, -⟩ | ⟨-, ⟨h, -⟩ | ⟨M3, h, rfl, -⟩⟩
    · exact up2_ne (by omega)
    · exact ghR_keep h hk
    · rw [up2_ne (by omega)]
      exact ghR_keep h hk
theorem wdR_v {M M2 : Mem} {p f : Nat} {lm : Nat → Nat} {i : Nat} {v : Option Value} (h : wdR M p f lm i v M2) : v = some (.int 0) ∨ v = some (.int 1) := by
  rcases h with ⟨-, -, h⟩ | ⟨M1, -, ⟨-, -, h⟩ | ⟨-, ⟨-, h⟩ | ⟨M3, -, -, h⟩⟩⟩
  · exact Or.inl h
  · exact Or.inr h
  · exact Or.inl h
  · exact Or.inr h
theorem r_set3 {d : Nat} {M : Mem} {p : Nat} {x : Int32} (hp : M 14 0 = nI p) (hp1 : p ≤ 1000) (hp0 : 1 < p) (hk : ¬ M 12 (p - 1 - 1) = nI 2) : CalR (d + 6) j_X9_set [.ref 0, .int x] M (some (.int (nI 3))) (up2 M 9 0 (nI 3)) := by
  refine CalR_of (md := md_X9_set) (d := d + 5) rfl (Nat.le_of_ble_eq_true rfl) ?_
  show WR (CalR (d + 5)) t_X9_set 9 (some .int) _ 0 [(0, .ref 0), (1, .int x)] [] _
  refine R_aload_n rfl rfl ?_
  refine R_iconst (y := nI 1) rfl (by decide) ?_
  refine R_virt rfl rfl rfl rfl rfl rfl rfl (Nat.le_of_ble_eq_true rfl) (fun _ q => by cases q) (r_topKind (by first | assumption | rfl) (by omega) (by omega)) ?_
  try refine R_top (y := nI _) (by assumption) ?_
  refine R_iconst (y := nI 2) rfl (by decide) ?_
  refine R_icF rfl (by first | assumption | exact icF (by decide) | exact ic_F (by omega) (by omega) (by simp only [icN, not_true_eq_false, not_false_eq_true] <;> omega) | exact ic_F0 (by omega) (by simp only [icN, not_true_eq_false, not_false_eq_true] <;> omega)) ?_
  refine R_aload_n rfl rfl ?_
  refine R_iconst (y := nI 3) rfl (by decide) ?_
  refine R_virt rfl rfl rfl rfl rfl rfl rfl (Nat.le_of_ble_eq_true rfl) (fun _ q => by cases q) (r_ends) ?_
  try refine R_top (y := nI _) (by assumption) ?_
  exact R_iret rfl rfl (by first | trivial | exact Or.inl rfl | exact Or.inr rfl | assumption) ⟨rfl, rfl⟩
/-- behind a SET into the slot j -/
def setM (M : Mem) (p a s j : Nat) : Mem := welM (lowM (up2 (up2 M 35 j (M 12 (p - 1))) 36 j (M 13 (p - 1))) (p - 2)) (nI (a + 1)) s
theorem r_setO {d : Nat} {M : Mem} {p a s i n sl : Nat} {x : Int32} (hp : M 14 0 = nI p) (hp1 : p ≤ 1000) (hp0 : 1 < p) (ha : M 10 0 = nI a) (hs : M 11 0 = nI s) (hk : M 12 (p - 1 - 1) = nI 2) (hi : M 13 (p - 1 - 1) = nI i) (hi1 : i < 1500) (hn : M 32 i = nI n) (hn4 : n ≤ 40) (ho : osl M i x = some sl) : CalR (d + 6) j_X9_set [.ref 0, .int x] M (some (.int 0)) (setM M p a s (40 * i + sl)) := by
  have hsl := osl_lt hn hn4 ho
  have hO : CalR (d + 5) j_X9_ownSlot [.ref 0, .int (nI i), .int x] M (some (.int (nI (40 * i + sl)))) M := by
    have := r_ownSlot (d := d + 4) (x := x) hi1 hn hn4
    unfold oslV at this
    rw [ho] at this
    exact this
  unfold setM
  refine CalR_of (md := md_X9_set) (d := d + 5) rfl (Nat.le_of_ble_eq_true rfl) ?_
  show WR (CalR (d + 5)) t_X9_set 9 (some .int) _ 0 [(0, .ref 0), (1, .int x)] [] _
  refine R_aload_n rfl rfl ?_
  refine R_iconst (y := nI 1) rfl (by decide) ?_
  refine R_virt rfl rfl rfl rfl rfl rfl rfl (Nat.le_of_ble_eq_true rfl) (fun _ q => by cases q) (r_topKind (by first | assumption | rfl) (by omega) (by omega)) ?_
  try refine R_top (y := nI _) (by assumption) ?_
  refine R_iconst (y := nI 2) rfl (by decide) ?_
  refine R_icT (pc' := 15) rfl rfl (by first | assumption | exact icT (by decide) | exact ic_T (by omega) (by omega) (by simp only [icN, not_true_eq_false, not_false_eq_true] <;> omega) | exact ic_T0 (by omega) (by simp only [icN, not_true_eq_false, not_false_eq_true] <;> omega)) ?_
  refine R_aload_n rfl rfl ?_
  refine R_iconst (y := nI 1) rfl (by decide) ?_
  refine R_virt rfl rfl rfl rfl rfl rfl rfl (Nat.le_of_ble_eq_true rfl) (fun _ q => by cases q) (r_topNumber (by first | assumption | rfl) (by omega) (by omega)) ?_
  try refine R_top (y := nI _) (by assumption) ?_
  refine R_istore_n (lv' := [(2, _), (0, _), (1, _)]) rfl rfl ?_
  refine R_aload_n rfl rfl ?_
  refine R_iload_n rfl rfl ?_
  refine R_iload_n rfl rfl ?_
  refine R_virt rfl rfl rfl rfl rfl rfl rfl (Nat.le_of_ble_eq_true rfl) (fun _ q => by cases q) (hO) ?_
  try refine R_top (y := nI _) (by assumption) ?_
  refine R_istore_n (lv' := [(3, _), (2, _), (0, _), (1, _)]) rfl rfl ?_
  refine R_iload_n rfl rfl ?_
  refine R_ifT (pc' := 99) rfl rfl (by first | assumption | exact icT (by decide) | exact ic_T (by omega) (by omega) (by simp only [icN, not_true_eq_false, not_false_eq_true] <;> omega) | exact ic_T0 (by omega) (by simp only [icN, not_true_eq_false, not_false_eq_true] <;> omega)) ?_
  refine R_aload_n rfl rfl ?_
  refine R_getA rfl rfl (Or.inl rfl) ?_
  refine R_iload_n rfl rfl ?_
  refine R_aload_n rfl rfl ?_
  refine R_iconst (y := nI 0) rfl (by decide) ?_
  refine R_virt rfl rfl rfl rfl rfl rfl rfl (Nat.le_of_ble_eq_true rfl) (fun _ q => by cases q) (r_topKind (by first | assumption | rfl) (by omega) (by omega)) ?_
  try refine R_top (y := nI _) (by assumption) ?_
  refine R_iast rfl rfl rfl (show _ < 60000 from by omega) ?_
  refine R_aload_n rfl rfl ?_
  refine R_getA rfl rfl (Or.inl rfl) ?_
  refine R_iload_n rfl rfl ?_
  refine R_aload_n rfl rfl ?_
  refine R_iconst (y := nI 0) rfl (by decide) ?_
  refine R_virt rfl rfl rfl rfl rfl rfl rfl (Nat.le_of_ble_eq_true rfl) (fun _ q => by cases q) (r_topNumber (by first | assumption | rfl) (by omega) (by omega)) ?_
  try refine R_top (y := nI _) (by assumption) ?_
  refine R_iast rfl rfl rfl (show _ < 60000 from by omega) ?_
  refine R_aload_n rfl rfl ?_
  refine R_aload_n rfl rfl ?_
  refine R_getI rfl rfl (Or.inl rfl) ?_
  try refine R_top (y := nI _) (by assumption) ?_
  refine R_iconst (y := nI 2) rfl (by decide) ?_
  first | refine R_isubN rfl (by omega) ?_ | refine R_isub rfl ?_
  refine R_put rfl rfl rfl ?_
  refine R_aload_n rfl rfl ?_
  refine R_aload_n rfl rfl ?_
  refine R_getI rfl rfl (Or.inl rfl) ?_
  try refine R_top (y := nI _) (by assumption) ?_
  refine R_iconst (y := nI 1) rfl (by decide) ?_
  first | refine R_iaddN rfl ?_ | refine R_iadd rfl ?_
  refine R_virt rfl rfl rfl rfl rfl rfl rfl (Nat.le_of_ble_eq_true rfl) (fun _ q => by cases q) (r_well (by assumption)) ?_
  try refine R_top (y := nI _) (by assumption) ?_
  exact R_iret rfl rfl (by first | trivial | exact Or.inl rfl | exact Or.inr rfl | assumption) ⟨rfl, rfl⟩
theorem r_setF {d : Nat} {M : Mem} {p i : Nat} {x : Int32} (hp : M 14 0 = nI p) (hp1 : p ≤ 1000) (hp0 : 1 < p) (hk : M 12 (p - 1 - 1) = nI 2) (hi : M 13 (p - 1 - 1) = nI i) (hi1 : i < 1500) (hn : M 32 i = nI 40) (ho : osl M i x = none) : CalR (d + 6) j_X9_set [.ref 0, .int x] M (some (.int (nI 10))) (up2 M 9 0 (nI 10)) := by
  have hO : CalR (d + 5) j_X9_ownSlot [.ref 0, .int (nI i), .int x] M (some (.int (-1))) M := by
    have := r_ownSlot (d := d + 4) (x := x) hi1 hn (Nat.le_refl _)
    unfold oslV at this
    rw [ho] at this
    exact this
  refine CalR_of (md := md_X9_set) (d := d + 5) rfl (Nat.le_of_ble_eq_true rfl) ?_
  show WR (CalR (d + 5)) t_X9_set 9 (some .int) _ 0 [(0, .ref 0), (1, .int x)] [] _
  refine R_aload_n rfl rfl ?_
  refine R_iconst (y := nI 1) rfl (by decide) ?_
  refine R_virt rfl rfl rfl rfl rfl rfl rfl (Nat.le_of_ble_eq_true rfl) (fun _ q => by cases q) (r_topKind (by first | assumption | rfl) (by omega) (by omega)) ?_
  try refine R_top (y := nI _) (by assumption) ?_
  refine R_iconst (y := nI 2) rfl (by decide) ?_
  refine R_icT (pc' := 15) rfl rfl (by first | assumption | exact icT (by decide) | exact ic_T (by omega) (by omega) (by simp only [icN, not_true_eq_false, not_false_eq_true] <;> omega) | exact ic_T0 (by omega) (by simp only [icN, not_true_eq_false, not_false_eq_true] <;> omega)) ?_
  refine R_aload_n rfl rfl ?_
  refine R_iconst (y := nI 1) rfl (by decide) ?_
  refine R_virt rfl rfl rfl rfl rfl rfl rfl (Nat.le_of_ble_eq_true rfl) (fun _ q => by cases q) (r_topNumber (by first | assumption | rfl) (by omega) (by omega)) ?_
  try refine R_top (y := nI _) (by assumption) ?_
  refine R_istore_n (lv' := [(2, _), (0, _), (1, _)]) rfl rfl ?_
  refine R_aload_n rfl rfl ?_
  refine R_iload_n rfl rfl ?_
  refine R_iload_n rfl rfl ?_
  refine R_virt rfl rfl rfl rfl rfl rfl rfl (Nat.le_of_ble_eq_true rfl) (fun _ q => by cases q) (hO) ?_
  try refine R_top (y := nI _) (by assumption) ?_
  refine R_istore_n (lv' := [(3, _), (2, _), (0, _), (1, _)]) rfl rfl ?_
  refine R_iload_n rfl rfl ?_
  refine R_ifF rfl (by first | assumption | exact icF (by decide) | exact ic_F (by omega) (by omega) (by simp only [icN, not_true_eq_false, not_false_eq_true] <;> omega) | exact ic_F0 (by omega) (by simp only [icN, not_true_eq_false, not_false_eq_true] <;> omega)) ?_
  refine R_aload_n rfl rfl ?_
  refine R_getA rfl rfl (Or.inl rfl) ?_
  refine R_iload_n rfl rfl ?_
  refine R_iald rfl rfl rfl (show _ < 1500 from by omega) ?_
  try refine R_top (y := nI _) (by assumption) ?_
  refine R_bipush (y := nI 40) rfl (by decide) ?_
  refine R_icF rfl (by first | assumption | exact icF (by decide) | exact ic_F (by omega) (by omega) (by simp only [icN, not_true_eq_false, not_false_eq_true] <;> omega) | exact ic_F0 (by omega) (by simp only [icN, not_true_eq_false, not_false_eq_true] <;> omega)) ?_
  refine R_aload_n rfl rfl ?_
  refine R_bipush (y := nI 10) rfl (by decide) ?_
  refine R_virt rfl rfl rfl rfl rfl rfl rfl (Nat.le_of_ble_eq_true rfl) (fun _ q => by cases q) (r_ends) ?_
  try refine R_top (y := nI _) (by assumption) ?_
  exact R_iret rfl rfl (by first | trivial | exact Or.inl rfl | exact Or.inr rfl | assumption) ⟨rfl, rfl⟩
def setR (M : Mem) (p f : Nat) (lm : Nat → Nat) (a s i n : Nat) (x : Int32) (v : Option Value) (M' : Mem) : Prop := ∃ v1 M2, wdR M p f lm i v1 M2 ∧ ((v1 = some (.int 0) ∧ v = some (.int (nI 8)) ∧ M' = up2 M2 9 0 (nI 8)) ∨ (v1 = some (.int 1) ∧ v = some (.int 0) ∧ M' = setM (up2 (up2 (up2 M2 32 i (nI (n + 1))) 34 (40 * i + n) x) 33 i (nI (s + 1))) p a s (40 * i + n)))
theorem r_setN {d : Nat} {M : Mem} {p f a s i n : Nat} {lm : Nat → Nat} {x : Int32} (hw : wfR M p f lm) (hp0 : 1 < p) (ha : M 10 0 = nI a) (hs : M 11 0 = nI s) (hk : M 12 (p - 1 - 1) = nI 2) (hi : M 13 (p - 1 - 1) = nI i) (hi1 : i < 1500) (hn : M 32 i = nI n) (hn4 : n < 40) (ho : osl M i x = none) : CQ (d + 6) j_X9_set [.ref 0, .int x] M (setR M p f lm a s i n x) := by
  have hp := hw.1
  have hp1 := hw.2.1
  have hO : CalR (d + 5) j_X9_ownSlot [.ref 0, .int (nI i), .int x] M (some (.int (-1))) M := by
    have := r_ownSlot (d := d + 4) (x := x) hi1 hn (by omega)
    unfold oslV at this
    rw [ho] at this
    exact this
  refine CQ_of (md := md_X9_set) (d := d + 5) rfl (Nat.le_of_ble_eq_true rfl) ?_
  show WR (CalR (d + 5)) t_X9_set 9 (some .int) _ 0 [(0, .ref 0), (1, .int x)] [] _
  refine R_aload_n rfl rfl ?_
  refine R_iconst (y := nI 1) rfl (by decide) ?_
  refine R_virt rfl rfl rfl rfl rfl rfl rfl (Nat.le_of_ble_eq_true rfl) (fun _ q => by cases q) (r_topKind (by first | assumption | rfl) (by omega) (by omega)) ?_
  try refine R_top (y := nI _) (by assumption) ?_
  refine R_iconst (y := nI 2) rfl (by decide) ?_
  refine R_icT (pc' := 15) rfl rfl (by first | assumption | exact icT (by decide) | exact ic_T (by omega) (by omega) (by simp only [icN, not_true_eq_false, not_false_eq_true] <;> omega) | exact ic_T0 (by omega) (by simp only [icN, not_true_eq_false, not_false_eq_true] <;> omega)) ?_
  refine R_aload_n rfl rfl ?_
  refine R_iconst (y := nI 1) rfl (by decide) ?_
  refine R_virt rfl rfl rfl rfl rfl rfl rfl (Nat.le_of_ble_eq_true rfl) (fun _ q => by cases q) (r_topNumber (by first | assumption | rfl) (by omega) (by omega)) ?_
  try refine R_top (y := nI _) (by assumption) ?_
  refine R_istore_n (lv' := [(2, _), (0, _), (1, _)]) rfl rfl ?_
  refine R_aload_n rfl rfl ?_
  refine R_iload_n rfl rfl ?_
  refine R_iload_n rfl rfl ?_
  refine R_virt rfl rfl rfl rfl rfl rfl rfl (Nat.le_of_ble_eq_true rfl) (fun _ q => by cases q) (hO) ?_
  try refine R_top (y := nI _) (by assumption) ?_
  refine R_istore_n (lv' := [(3, _), (2, _), (0, _), (1, _)]) rfl rfl ?_
  refine R_iload_n rfl rfl ?_
  refine R_ifF rfl (by first | assumption | exact icF (by decide) | exact ic_F (by omega) (by omega) (by simp only [icN, not_true_eq_false, not_false_eq_true] <;> omega) | exact ic_F0 (by omega) (by simp only [icN, not_true_eq_false, not_false_eq_true] <;> omega)) ?_
  refine R_aload_n rfl rfl ?_
  refine R_getA rfl rfl (Or.inl rfl) ?_
  refine R_iload_n rfl rfl ?_
  refine R_iald rfl rfl rfl (show _ < 1500 from by omega) ?_
  try refine R_top (y := nI _) (by assumption) ?_
  refine R_bipush (y := nI 40) rfl (by decide) ?_
  refine R_icT (pc' := 50) rfl rfl (by first | assumption | exact icT (by decide) | exact ic_T (by omega) (by omega) (by simp only [icN, not_true_eq_false, not_false_eq_true] <;> omega) | exact ic_T0 (by omega) (by simp only [icN, not_true_eq_false, not_false_eq_true] <;> omega)) ?_
  refine R_aload_n rfl rfl ?_
  refine R_iload_n rfl rfl ?_
  refine R_vq rfl rfl rfl rfl rfl rfl rfl (Nat.le_of_ble_eq_true rfl) (r_widen hw hi1) ?_
  intro v1 M2 hm
  have k14 : M2 14 0 = nI p := (wdR_keep hm (Or.inl (by omega))).trans hp
  have k10 : M2 10 0 = nI a := (wdR_keep hm (Or.inl (by omega))).trans ha
  have k11 : M2 11 0 = nI s := (wdR_keep hm (Or.inl (by omega))).trans hs
  have k32 : M2 32 i = nI n := (wdR_keep hm (Or.inr (Or.inl (by omega)))).trans hn
  rcases wdR_v hm with rfl | rfl
  · show WR (CalR (d + 5)) t_X9_set 9 (some .int) (setR M p f lm a s i n x) 55 [(3, .int (-1)), (2, .int (nI i)), (0, .ref 0), (1, .int x)] [.int 0] M2
    refine R_ifF rfl (by first | assumption | exact icF (by decide) | exact ic_F (by omega) (by omega) (by simp only [icN, not_true_eq_false, not_false_eq_true] <;> omega) | exact ic_F0 (by omega) (by simp only [icN, not_true_eq_false, not_false_eq_true] <;> omega)) ?_
    refine R_aload_n rfl rfl ?_
    refine R_bipush (y := nI 8) rfl (by decide) ?_
    refine R_virt rfl rfl rfl rfl rfl rfl rfl (Nat.le_of_ble_eq_true rfl) (fun _ q => by cases q) (r_ends) ?_
    try refine R_top (y := nI _) (by assumption) ?_
    exact R_iret rfl rfl trivial ⟨_, _, hm, Or.inl ⟨rfl, rfl, rfl⟩⟩
  · show WR (CalR (d + 5)) t_X9_set 9 (some .int) (setR M p f lm a s i n x) 55 [(3, .int (-1)), (2, .int (nI i)), (0, .ref 0), (1, .int x)] [.int 1] M2
    refine R_ifT (pc' := 65) rfl rfl (by first | assumption | exact icT (by decide) | exact ic_T (by omega) (by omega) (by simp only [icN, not_true_eq_false, not_false_eq_true] <;> omega) | exact ic_T0 (by omega) (by simp only [icN, not_true_eq_false, not_false_eq_true] <;> omega)) ?_
    refine R_bipush (y := nI 40) rfl (by decide) ?_
    refine R_iload_n rfl rfl ?_
    first | refine R_imulN rfl ?_ | refine R_imul rfl ?_
    refine R_aload_n rfl rfl ?_
    refine R_getA rfl rfl (Or.inl rfl) ?_
    refine R_iload_n rfl rfl ?_
    refine R_iald rfl rfl rfl (show _ < 1500 from by omega) ?_
    try refine R_top (y := nI _) (by assumption) ?_
    first | refine R_iaddN rfl ?_ | refine R_iadd rfl ?_
    refine R_istore_n (lv' := [(3, _), (2, _), (0, _), (1, _)]) rfl rfl ?_
    refine R_aload_n rfl rfl ?_
    refine R_getA rfl rfl (Or.inl rfl) ?_
    refine R_iload_n rfl rfl ?_
    refine R_dup2 rfl ?_
    refine R_iald rfl rfl rfl (show _ < 1500 from by omega) ?_
    try refine R_top (y := nI _) (by assumption) ?_
    refine R_iconst (y := nI 1) rfl (by decide) ?_
    first | refine R_iaddN rfl ?_ | refine R_iadd rfl ?_
    refine R_iast rfl rfl rfl (show _ < 1500 from by omega) ?_
    refine R_aload_n rfl rfl ?_
    refine R_getA rfl rfl (Or.inl rfl) ?_
    refine R_iload_n rfl rfl ?_
    refine R_iload_n rfl rfl ?_
    refine R_iast rfl rfl rfl (show _ < 60000 from by omega) ?_
    refine R_aload_n rfl rfl ?_
    refine R_iload_n rfl rfl ?_
    refine R_virt rfl rfl rfl rfl rfl rfl rfl (Nat.le_of_ble_eq_true rfl) (fun _ q => by cases q) (r_touch (by omega) (by assumption)) ?_
    refine R_aload_n rfl rfl ?_
    refine R_getA rfl rfl (Or.inl rfl) ?_
    refine R_iload_n rfl rfl ?_
    refine R_aload_n rfl rfl ?_
    refine R_iconst (y := nI 0) rfl (by decide) ?_
    refine R_virt rfl rfl rfl rfl rfl rfl rfl (Nat.le_of_ble_eq_true rfl) (fun _ q => by cases q) (r_topKind (by first | assumption | rfl) (by omega) (by omega)) ?_
    try refine R_top (y := nI _) (by assumption) ?_
    refine R_iast rfl rfl rfl (show _ < 60000 from by omega) ?_
    refine R_aload_n rfl rfl ?_
    refine R_getA rfl rfl (Or.inl rfl) ?_
    refine R_iload_n rfl rfl ?_
    refine R_aload_n rfl rfl ?_
    refine R_iconst (y := nI 0) rfl (by decide) ?_
    refine R_virt rfl rfl rfl rfl rfl rfl rfl (Nat.le_of_ble_eq_true rfl) (fun _ q => by cases q) (r_topNumber (by first | assumption | rfl) (by omega) (by omega)) ?_
    try refine R_top (y := nI _) (by assumption) ?_
    refine R_iast rfl rfl rfl (show _ < 60000 from by omega) ?_
    refine R_aload_n rfl rfl ?_
    refine R_aload_n rfl rfl ?_
    refine R_getI rfl rfl (Or.inl rfl) ?_
    try refine R_top (y := nI _) (by assumption) ?_
    refine R_iconst (y := nI 2) rfl (by decide) ?_
    first | refine R_isubN rfl (by omega) ?_ | refine R_isub rfl ?_
    refine R_put rfl rfl rfl ?_
    refine R_aload_n rfl rfl ?_
    refine R_aload_n rfl rfl ?_
    refine R_getI rfl rfl (Or.inl rfl) ?_
    try refine R_top (y := nI _) (by assumption) ?_
    refine R_iconst (y := nI 1) rfl (by decide) ?_
    first | refine R_iaddN rfl ?_ | refine R_iadd rfl ?_
    refine R_virt rfl rfl rfl rfl rfl rfl rfl (Nat.le_of_ble_eq_true rfl) (fun _ q => by cases q) (r_well (by assumption)) ?_
    try refine R_top (y := nI _) (by assumption) ?_
    exact R_iret rfl rfl trivial ⟨_, _, hm, Or.inr ⟨rfl, rfl, rfl⟩⟩
