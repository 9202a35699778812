/-! ===== the reference: meet ===== -/
def nmc (M : Mem) (a i n : Nat) : Mem := fun k => if k = 50 then (fun j => if 40 * a ≤ j ∧ j < 40 * a + n then M 34 (40 * i + (j - 40 * a)) else M 50 j) else M k
theorem nmc_0 (M : Mem) (a i : Nat) : nmc M a i 0 = M := by
  funext k j
  unfold nmc
  by_cases h : k = 50
  · subst h
    rw [if_pos rfl]
    exact if_neg (by omega)
  · rw [if_neg h]
theorem nmc_s (M : Mem) (a i s : Nat) : up2 (nmc M a i s) 50 (40 * a + s) (M 34 (40 * i + s)) = nmc M a i (s + 1) := by
  funext k j
  unfold up2 upd
  by_cases h : k = 50
  · subst h
    rw [if_pos rfl]
    show (if j = 40 * a + s then M 34 (40 * i + s) else if 40 * a ≤ j ∧ j < 40 * a + s then M 34 (40 * i + (j - 40 * a)) else M 50 j) = (if 40 * a ≤ j ∧ j < 40 * a + (s + 1) then M 34 (40 * i + (j - 40 * a)) else M 50 j)
    by_cases hj : j = 40 * a + s
    · subst hj
      rw [if_pos rfl, if_pos (by omega)]
      congr 1
      omega
    · rw [if_neg hj]
      by_cases h2 : 40 * a ≤ j ∧ j < 40 * a + s
      · rw [if_pos h2, if_pos (by omega)]
      · rw [if_neg h2, if_neg (by omega)]
  · rw [if_neg h]
    unfold nmc
    rw [if_neg h, if_neg h]
theorem WR_eq {C : Rrel} {t : List (Nat × Instr × Nat)} {oc : Nat} {rt : Option FieldType} {Qr : Option Value → Mem → Prop} {pc : Nat} {lv : Lv} {st : List Value} {M M' : Mem} (h : M = M') (k : WR C t oc rt Qr pc lv st M') : WR C t oc rt Qr pc lv st M := h ▸ k
def mtl (M : Mem) (s n a k i : Nat) : Mem := if k = 2 then nmc (up2 (up2 (up2 (up2 M 47 a (nI k)) 51 a (nI (s + 1))) 48 a (serA M (M 31 i))) 49 a (nI n)) a i n else up2 (up2 (up2 M 47 a (nI k)) 51 a (nI (s + 1))) 48 a (serA M (M 25 k))
theorem r_meetT {d : Nat} {M : Mem} {a k i n s : Nat} {y : Int32} (ha : a < 2000) (hk : k < 4) (hp : M 25 k = -1 ∨ ∃ i, i < 1500 ∧ M 25 k = nI i) (hi : i < 1500) (hn : M 32 i = nI n) (hn4 : n ≤ 40) (hpi : M 31 i = -1 ∨ ∃ j, j < 1500 ∧ M 31 i = nI j) (hy : k = 2 → y = nI i) (hs : M 11 0 = nI s) : WR (CalR (d + 1)) t_X9_meet 9 none (fun v' M' => v' = none ∧ M' = mtl M s n a k i) 40 [(0, .ref 0), (1, .int (nI a)), (2, .int (nI k)), (3, .int y)] [] M := by
  by_cases hk2 : k = 2
  · have hyy := hy hk2
    subst hk2
    subst hyy
    unfold mtl
    rw [if_pos rfl]
    refine R_aload_n rfl rfl ?_
    refine R_getA rfl rfl (Or.inl rfl) ?_
    refine R_iload_n rfl rfl ?_
    refine R_iload_n rfl rfl ?_
    refine R_iast rfl rfl rfl (show _ < 2000 from by omega) ?_
    refine R_aload_n rfl rfl ?_
    refine R_getA rfl rfl (Or.inl rfl) ?_
    refine R_iload_n rfl rfl ?_
    refine R_aload_n rfl rfl ?_
    refine R_getI rfl rfl (Or.inl rfl) ?_
    try refine R_top (y := nI _) (by assumption) ?_
    refine R_iconst (y := nI 1) rfl (by decide) ?_
    first | refine R_iaddN rfl ?_ | refine R_iadd rfl ?_
    refine R_iast rfl rfl rfl (show _ < 2000 from by omega) ?_
    refine R_iload_n rfl rfl ?_
    refine R_iconst (y := nI 2) rfl (by decide) ?_
    refine R_icT (pc' := 81) rfl rfl (by first | assumption | exact icT (by decide) | exact ic_T (by omega) (by omega) (by simp only [icN, not_true_eq_false, not_false_eq_true] <;> omega) | exact ic_T0 (by omega) (by simp only [icN, not_true_eq_false, not_false_eq_true] <;> omega)) ?_
    refine R_aload_n rfl rfl ?_
    refine R_getA rfl rfl (Or.inl rfl) ?_
    refine R_iload_n rfl rfl ?_
    refine R_aload_n rfl rfl ?_
    refine R_aload_n rfl rfl ?_
    refine R_getA rfl rfl (Or.inl rfl) ?_
    refine R_iload_n rfl rfl ?_
    refine R_iald rfl rfl rfl (show _ < 1500 from by omega) ?_
    try refine R_top (y := nI _) (by assumption) ?_
    refine R_virt rfl rfl rfl rfl rfl rfl rfl (Nat.le_of_ble_eq_true rfl) (fun _ q => by cases q) (r_ser hpi) ?_
    try refine R_top (y := nI _) (by assumption) ?_
    refine R_iast rfl rfl rfl (show _ < 2000 from by omega) ?_
    refine R_aload_n rfl rfl ?_
    refine R_getA rfl rfl (Or.inl rfl) ?_
    refine R_iload_n rfl rfl ?_
    refine R_aload_n rfl rfl ?_
    refine R_getA rfl rfl (Or.inl rfl) ?_
    refine R_iload_n rfl rfl ?_
    refine R_iald rfl rfl rfl (show _ < 1500 from by omega) ?_
    try refine R_top (y := nI _) (by assumption) ?_
    refine R_iast rfl rfl rfl (show _ < 2000 from by omega) ?_
    refine R_iconst (y := nI 0) rfl (by decide) ?_
    refine R_istore (lv' := [(4, _), (0, _), (1, _), (2, _), (3, _)]) rfl rfl ?_
    refine WR_eq (nmc_0 _ a i).symm ?_
    have h3 : (up2 (up2 (up2 (up2 M 47 a (nI 2)) 51 a (nI (s + 1))) 48 a (serA M (M 31 i))) 49 a (nI n)) 32 i = nI n := hn
    refine dn_up (P := fun q => WR (CalR (d + 1)) t_X9_meet 9 none (fun v' M' => v' = none ∧ M' = nmc (up2 (up2 (up2 (up2 M 47 a (nI 2)) 51 a (nI (s + 1))) 48 a (serA M (M 31 i))) 49 a (nI n)) a i n) 112 [(4, .int (nI q)), (0, .ref 0), (1, .int (nI a)), (2, .int (nI 2)), (3, .int (nI i))] [] (nmc (up2 (up2 (up2 (up2 M 47 a (nI 2)) 51 a (nI (s + 1))) 48 a (serA M (M 31 i))) 49 a (nI n)) a i q)) (N := n) ?_ ?_ 0 (Nat.zero_le _)
    · generalize up2 (up2 (up2 (up2 M 47 a (nI 2)) 51 a (nI (s + 1))) 48 a (serA M (M 31 i))) 49 a (nI n) = M3 at h3 ⊢
      refine R_iload rfl rfl ?_
      refine R_aload_n rfl rfl ?_
      refine R_getA rfl rfl (Or.inl rfl) ?_
      refine R_iload_n rfl rfl ?_
      refine R_iald rfl rfl rfl (show _ < 1500 from by omega) ?_
      try refine R_top (y := nI _) (by assumption) ?_
      refine R_icT (pc' := 153) rfl rfl (by first | assumption | exact icT (by decide) | exact ic_T (by omega) (by omega) (by simp only [icN, not_true_eq_false, not_false_eq_true] <;> omega) | exact ic_T0 (by omega) (by simp only [icN, not_true_eq_false, not_false_eq_true] <;> omega)) ?_
      exact R_ret rfl rfl ⟨rfl, rfl⟩
    · generalize up2 (up2 (up2 (up2 M 47 a (nI 2)) 51 a (nI (s + 1))) 48 a (serA M (M 31 i))) 49 a (nI n) = M3 at h3 ⊢
      intro q hq nx
      refine R_iload rfl rfl ?_
      refine R_aload_n rfl rfl ?_
      refine R_getA rfl rfl (Or.inl rfl) ?_
      refine R_iload_n rfl rfl ?_
      refine R_iald rfl rfl rfl (show _ < 1500 from by omega) ?_
      try refine R_top (y := nI _) (by assumption) ?_
      refine R_icF rfl (by first | assumption | exact icF (by decide) | exact ic_F (by omega) (by omega) (by simp only [icN, not_true_eq_false, not_false_eq_true] <;> omega) | exact ic_F0 (by omega) (by simp only [icN, not_true_eq_false, not_false_eq_true] <;> omega)) ?_
      refine R_aload_n rfl rfl ?_
      refine R_getA rfl rfl (Or.inl rfl) ?_
      refine R_bipush (y := nI 40) rfl (by decide) ?_
      refine R_iload_n rfl rfl ?_
      first | refine R_imulN rfl ?_ | refine R_imul rfl ?_
      refine R_iload rfl rfl ?_
      first | refine R_iaddN rfl ?_ | refine R_iadd rfl ?_
      refine R_aload_n rfl rfl ?_
      refine R_getA rfl rfl (Or.inl rfl) ?_
      refine R_bipush (y := nI 40) rfl (by decide) ?_
      refine R_iload_n rfl rfl ?_
      first | refine R_imulN rfl ?_ | refine R_imul rfl ?_
      refine R_iload rfl rfl ?_
      first | refine R_iaddN rfl ?_ | refine R_iadd rfl ?_
      refine R_iald rfl rfl rfl (show _ < 60000 from by omega) ?_
      try refine R_top (y := nI _) (by assumption) ?_
      refine R_iast rfl rfl rfl (show _ < 80000 from by omega) ?_
      refine WR_eq (show up2 (nmc M3 a i q) 50 (40 * a + q) (nmc M3 a i q 34 (40 * i + q)) = nmc M3 a i (q + 1) from nmc_s M3 a i q) ?_
      refine R_iinc (lv' := [(4, _), (0, _), (1, _), (2, _), (3, _)]) rfl rfl (by exact nI_1 _) rfl ?_
      refine R_goto (pc' := 112) rfl rfl ?_
      exact nx
  · unfold mtl
    rw [if_neg hk2]
    refine R_aload_n rfl rfl ?_
    refine R_getA rfl rfl (Or.inl rfl) ?_
    refine R_iload_n rfl rfl ?_
    refine R_iload_n rfl rfl ?_
    refine R_iast rfl rfl rfl (show _ < 2000 from by omega) ?_
    refine R_aload_n rfl rfl ?_
    refine R_getA rfl rfl (Or.inl rfl) ?_
    refine R_iload_n rfl rfl ?_
    refine R_aload_n rfl rfl ?_
    refine R_getI rfl rfl (Or.inl rfl) ?_
    try refine R_top (y := nI _) (by assumption) ?_
    refine R_iconst (y := nI 1) rfl (by decide) ?_
    first | refine R_iaddN rfl ?_ | refine R_iadd rfl ?_
    refine R_iast rfl rfl rfl (show _ < 2000 from by omega) ?_
    refine R_iload_n rfl rfl ?_
    refine R_iconst (y := nI 2) rfl (by decide) ?_
    refine R_icF rfl (by first | assumption | exact icF (by decide) | exact ic_F (by omega) (by omega) (by simp only [icN, not_true_eq_false, not_false_eq_true] <;> omega) | exact ic_F0 (by omega) (by simp only [icN, not_true_eq_false, not_false_eq_true] <;> omega)) ?_
    refine R_aload_n rfl rfl ?_
    refine R_getA rfl rfl (Or.inl rfl) ?_
    refine R_iload_n rfl rfl ?_
    refine R_aload_n rfl rfl ?_
    refine R_aload_n rfl rfl ?_
    refine R_getA rfl rfl (Or.inl rfl) ?_
    refine R_iload_n rfl rfl ?_
    refine R_iald rfl rfl rfl (show _ < 4 from by omega) ?_
    try refine R_top (y := nI _) (by assumption) ?_
    refine R_virt rfl rfl rfl rfl rfl rfl rfl (Nat.le_of_ble_eq_true rfl) (fun _ q => by cases q) (r_ser hp) ?_
    try refine R_top (y := nI _) (by assumption) ?_
    refine R_iast rfl rfl rfl (show _ < 2000 from by omega) ?_
    exact R_ret rfl rfl ⟨rfl, rfl⟩
theorem clm_53 (M : Mem) (x t : Int32) : ∀ (n : Nat) (c : Int32), clm (up2 M 53 0 x) t n c = clm M t n c
  | 0, c => rfl
  | n + 1, c => by
    unfold clm
    rw [clm_53 M x t n]
    rfl
/-- behind a site's step: b tells a hit -/
def metM (M : Mem) (s n a k i : Nat) (b : Bool) : Mem := mtl (if b = true then up2 (up2 M 53 0 (M 53 0 + 1)) 52 0 (M 52 0 + 1) else up2 M 53 0 (M 53 0 + 1)) s n a k i
theorem r_meet {d : Nat} {M : Mem} {lv : Nat → Prop} {rk : Nat → Nat} {a k i n s N : Nat} {y : Int32} {b : Bool} (hd : dwn M lv rk) (ha : a < 2000) (hk : k < 4) (hp : M 25 k = -1 ∨ ∃ i, i < 1500 ∧ M 25 k = nI i) (hi : i < 1500) (hn : M 32 i = nI n) (hn4 : n ≤ 40) (hpi : M 31 i = -1 ∨ ∃ j, j < 1500 ∧ M 31 i = nI j) (hy : k = 2 → y = nI i) (hs : M 11 0 = nI s) (hc : abv M k y = -1 ∨ ∃ i, lv i ∧ abv M k y = nI i ∧ rk i < N) (hb : b = true ↔ (rmb M a k i ∧ clm M (M 51 a) (N + 1) (abv M k y) = true)) : CalR (d + 3) j_X9_meet [.ref 0, .int (nI a), .int (nI k), .int y] M none (metM M s n a k i b) := by
  have hd1 : dwn (up2 M 53 0 (M 53 0 + 1)) lv rk := hd
  refine CalR_of (md := md_X9_meet) (d := d + 2) rfl (Nat.le_of_ble_eq_true rfl) ?_
  show WR (CalR (d + 2)) t_X9_meet 9 none _ 0 [(0, .ref 0), (1, .int (nI a)), (2, .int (nI k)), (3, .int y)] [] _
  unfold metM
  by_cases hr : rmb M a k i
  · cases hcl : clm M (M 51 a) (N + 1) (abv M k y) with
    | true =>
      have e : b = true := hb.mpr ⟨hr, hcl⟩
      subst e
      rw [if_pos rfl]
      have hv : b2i (clm (up2 M 53 0 (M 53 0 + 1)) (M 51 a) (N + 1) (abv M k y)) = nI 1 := by rw [show clm (up2 M 53 0 (M 53 0 + 1)) (M 51 a) (N + 1) (abv M k y) = clm M (M 51 a) (N + 1) (abv M k y) from clm_53 _ _ _ _ _, hcl]; rfl
      refine R_aload_n rfl rfl ?_
      refine R_dup rfl ?_
      refine R_getI rfl rfl (Or.inl rfl) ?_
      try refine R_top (y := nI _) (by assumption) ?_
      refine R_iconst (y := nI 1) rfl (by decide) ?_
      first | refine R_iaddN rfl ?_ | refine R_iadd rfl ?_
      refine R_put rfl rfl rfl ?_
      refine R_aload_n rfl rfl ?_
      refine R_iload_n rfl rfl ?_
      refine R_iload_n rfl rfl ?_
      refine R_iload_n rfl rfl ?_
      refine R_virt rfl rfl rfl rfl rfl rfl rfl (Nat.le_of_ble_eq_true rfl) (fun _ q => by cases q) (r_rem1 ha hk hp hi hn hn4 hpi hy hr) ?_
      try refine R_top (y := nI _) (by assumption) ?_
      refine R_ifF rfl (by first | assumption | exact icF (by decide) | exact ic_F (by omega) (by omega) (by simp only [icN, not_true_eq_false, not_false_eq_true] <;> omega) | exact ic_F0 (by omega) (by simp only [icN, not_true_eq_false, not_false_eq_true] <;> omega)) ?_
      refine R_aload_n rfl rfl ?_
      refine R_iload_n rfl rfl ?_
      refine R_iload_n rfl rfl ?_
      refine R_iload_n rfl rfl ?_
      refine R_virt rfl rfl rfl rfl rfl rfl rfl (Nat.le_of_ble_eq_true rfl) (fun _ q => by cases q) (r_isCalm (N := N) hd1 ha hk (fun q => ⟨i, hi, hy q⟩) hc) ?_
      try refine R_top (y := nI _) (by assumption) ?_
      refine R_ifF rfl (by first | assumption | exact icF (by decide) | exact ic_F (by omega) (by omega) (by simp only [icN, not_true_eq_false, not_false_eq_true] <;> omega) | exact ic_F0 (by omega) (by simp only [icN, not_true_eq_false, not_false_eq_true] <;> omega)) ?_
      refine R_aload_n rfl rfl ?_
      refine R_dup rfl ?_
      refine R_getI rfl rfl (Or.inl rfl) ?_
      try refine R_top (y := nI _) (by assumption) ?_
      refine R_iconst (y := nI 1) rfl (by decide) ?_
      first | refine R_iaddN rfl ?_ | refine R_iadd rfl ?_
      refine R_put rfl rfl rfl ?_
      exact r_meetT ha hk hp hi hn hn4 hpi hy hs
    | false =>
      have e : b = false := by
        cases b with
        | false => rfl
        | true => rw [(hb.mp rfl).2] at hcl; cases hcl
      subst e
      rw [if_neg (by decide)]
      have hv : b2i (clm (up2 M 53 0 (M 53 0 + 1)) (M 51 a) (N + 1) (abv M k y)) = nI 0 := by rw [show clm (up2 M 53 0 (M 53 0 + 1)) (M 51 a) (N + 1) (abv M k y) = clm M (M 51 a) (N + 1) (abv M k y) from clm_53 _ _ _ _ _, hcl]; rfl
      refine R_aload_n rfl rfl ?_
      refine R_dup rfl ?_
      refine R_getI rfl rfl (Or.inl rfl) ?_
      try refine R_top (y := nI _) (by assumption) ?_
      refine R_iconst (y := nI 1) rfl (by decide) ?_
      first | refine R_iaddN rfl ?_ | refine R_iadd rfl ?_
      refine R_put rfl rfl rfl ?_
      refine R_aload_n rfl rfl ?_
      refine R_iload_n rfl rfl ?_
      refine R_iload_n rfl rfl ?_
      refine R_iload_n rfl rfl ?_
      refine R_virt rfl rfl rfl rfl rfl rfl rfl (Nat.le_of_ble_eq_true rfl) (fun _ q => by cases q) (r_rem1 ha hk hp hi hn hn4 hpi hy hr) ?_
      try refine R_top (y := nI _) (by assumption) ?_
      refine R_ifF rfl (by first | assumption | exact icF (by decide) | exact ic_F (by omega) (by omega) (by simp only [icN, not_true_eq_false, not_false_eq_true] <;> omega) | exact ic_F0 (by omega) (by simp only [icN, not_true_eq_false, not_false_eq_true] <;> omega)) ?_
      refine R_aload_n rfl rfl ?_
      refine R_iload_n rfl rfl ?_
      refine R_iload_n rfl rfl ?_
      refine R_iload_n rfl rfl ?_
      refine R_virt rfl rfl rfl rfl rfl rfl rfl (Nat.le_of_ble_eq_true rfl) (fun _ q => by cases q) (r_isCalm (N := N) hd1 ha hk (fun q => ⟨i, hi, hy q⟩) hc) ?_
      try refine R_top (y := nI _) (by assumption) ?_
      refine R_ifT (pc' := 40) rfl rfl (by first | assumption | exact icT (by decide) | exact ic_T (by omega) (by omega) (by simp only [icN, not_true_eq_false, not_false_eq_true] <;> omega) | exact ic_T0 (by omega) (by simp only [icN, not_true_eq_false, not_false_eq_true] <;> omega)) ?_
      exact r_meetT ha hk hp hi hn hn4 hpi hy hs
  · have e : b = false := by
      cases b with
      | false => rfl
      | true => exact absurd (hb.mp rfl).1 hr
    subst e
    rw [if_neg (by decide)]
    refine R_aload_n rfl rfl ?_
    refine R_dup rfl ?_
    refine R_getI rfl rfl (Or.inl rfl) ?_
    try refine R_top (y := nI _) (by assumption) ?_
    refine R_iconst (y := nI 1) rfl (by decide) ?_
    first | refine R_iaddN rfl ?_ | refine R_iadd rfl ?_
    refine R_put rfl rfl rfl ?_
    refine R_aload_n rfl rfl ?_
    refine R_iload_n rfl rfl ?_
    refine R_iload_n rfl rfl ?_
    refine R_iload_n rfl rfl ?_
    refine R_virt rfl rfl rfl rfl rfl rfl rfl (Nat.le_of_ble_eq_true rfl) (fun _ q => by cases q) (r_rem0 ha hk hp hi hn hn4 hpi hy hr) ?_
    try refine R_top (y := nI _) (by assumption) ?_
    refine R_ifT (pc' := 40) rfl rfl (by first | assumption | exact icT (by decide) | exact ic_T (by omega) (by omega) (by simp only [icN, not_true_eq_false, not_false_eq_true] <;> omega) | exact ic_T0 (by omega) (by simp only [icN, not_true_eq_false, not_false_eq_true] <;> omega)) ?_
    exact r_meetT ha hk hp hi hn hn4 hpi hy hs
