/-! ===== the reference: clear, asm, wipe ===== -/
/-- the first s places of the array k0 hold x -/
def fil (M : Mem) (k0 s : Nat) (x : Int32) : Mem := fun k => if k = k0 then (fun j => if j < s then x else M k0 j) else M k
theorem fil_0 (M : Mem) (k0 : Nat) (x : Int32) : fil M k0 0 x = M := by
  funext k j
  unfold fil
  by_cases h : k = k0
  · subst h
    simp
  · simp [h]
theorem fil_s (M : Mem) (k0 s : Nat) (x : Int32) : up2 (fil M k0 s x) k0 s x = fil M k0 (s + 1) x := by
  funext k j
  unfold fil up2 upd
  by_cases h : k = k0
  · subst h
    simp only [if_true]
    by_cases h1 : j = s
    · subst h1
      simp
    · by_cases h2 : j < s
      · rw [if_neg h1, if_pos h2, if_pos (by omega)]
      · rw [if_neg h1, if_neg h2, if_neg (by omega)]
  · simp [h]
theorem fil_up {M : Mem} {k0 s k j : Nat} {x y : Int32} (h : k ≠ k0) : up2 (fil M k0 s x) k j y = fil (up2 M k j y) k0 s x := by
  funext k' j'
  unfold fil up2 upd
  by_cases h1 : k' = k
  · subst h1
    simp [h]
  · by_cases h2 : k' = k0
    · subst h2
      simp [h1]
    · simp [h1, h2]
def cl1 (M : Mem) : Mem := up2 (up2 (up2 (up2 (up2 (up2 (up2 (up2 (up2 M 9 0 0) 10 0 0) 11 0 0) 14 0 0) 22 0 1) 15 0 0) 17 0 0) 18 0 0) 19 0 16
def cl2 (M : Mem) (s : Nat) : Mem := fil (fil (fil (fil M 20 s 0) 21 s 0) 23 s 0) 24 s 0
def cl6 (M : Mem) : Mem := up2 (up2 (up2 (up2 (up2 (up2 M 40 0 0) 41 0 0) 42 0 0) 43 0 0) 44 0 0) 45 0 0
def clrM (M : Mem) : Mem := up2 (up2 (fil (cl6 (fil (up2 (fil (cl2 (cl1 M) 16) 25 4 (-1)) 28 0 0) 29 1500 0)) 47 2000 (-1)) 52 0 0) 53 0 0
theorem cl2_s (M : Mem) (s : Nat) : up2 (up2 (up2 (up2 (cl2 M s) 20 s 0) 21 s 0) 23 s 0) 24 s 0 = cl2 M (s + 1) := by
  unfold cl2
  rw [fil_up (by decide : (20 : Nat) ≠ 24), fil_up (by decide : (20 : Nat) ≠ 23), fil_up (by decide : (20 : Nat) ≠ 21), fil_s]
  rw [fil_up (by decide : (21 : Nat) ≠ 24), fil_up (by decide : (21 : Nat) ≠ 23), fil_s]
  rw [fil_up (by decide : (23 : Nat) ≠ 24), fil_s, fil_s]
theorem cl2_0 (M : Mem) : cl2 M 0 = M := by
  unfold cl2
  rw [fil_0, fil_0, fil_0, fil_0]
theorem r_clear {d : Nat} {M : Mem} : CalR (d + 1) j_X9_clear [.ref 0] M none (clrM M) := by
  refine CalR_of (md := md_X9_clear) rfl (Nat.le_of_ble_eq_true rfl) ?_
  show WR (CalR d) t_X9_clear 9 none _ 0 [(0, .ref 0)] [] _
  refine R_aload_n rfl rfl ?_
  refine R_iconst (y := nI 0) rfl (by decide) ?_
  refine R_put rfl rfl rfl ?_
  refine R_aload_n rfl rfl ?_
  refine R_iconst (y := nI 0) rfl (by decide) ?_
  refine R_put rfl rfl rfl ?_
  refine R_aload_n rfl rfl ?_
  refine R_iconst (y := nI 0) rfl (by decide) ?_
  refine R_put rfl rfl rfl ?_
  refine R_aload_n rfl rfl ?_
  refine R_iconst (y := nI 0) rfl (by decide) ?_
  refine R_put rfl rfl rfl ?_
  refine R_aload_n rfl rfl ?_
  refine R_iconst (y := nI 1) rfl (by decide) ?_
  refine R_put rfl rfl rfl ?_
  refine R_aload_n rfl rfl ?_
  refine R_getA rfl rfl (Or.inl rfl) ?_
  refine R_iconst (y := nI 0) rfl (by decide) ?_
  refine R_iconst (y := nI 0) rfl (by decide) ?_
  refine R_iast rfl rfl rfl (show _ < 200 from by omega) ?_
  refine R_aload_n rfl rfl ?_
  refine R_getA rfl rfl (Or.inl rfl) ?_
  refine R_iconst (y := nI 0) rfl (by decide) ?_
  refine R_iconst (y := nI 0) rfl (by decide) ?_
  refine R_iast rfl rfl rfl (show _ < 200 from by omega) ?_
  refine R_aload_n rfl rfl ?_
  refine R_getA rfl rfl (Or.inl rfl) ?_
  refine R_iconst (y := nI 0) rfl (by decide) ?_
  refine R_iconst (y := nI 0) rfl (by decide) ?_
  refine R_iast rfl rfl rfl (show _ < 200 from by omega) ?_
  refine R_aload_n rfl rfl ?_
  refine R_getA rfl rfl (Or.inl rfl) ?_
  refine R_iconst (y := nI 0) rfl (by decide) ?_
  refine R_bipush (y := nI 16) rfl (by decide) ?_
  refine R_iast rfl rfl rfl (show _ < 200 from by omega) ?_
  refine R_iconst (y := nI 0) rfl (by decide) ?_
  refine R_istore_n (lv' := [(1, _), (0, _)]) rfl rfl ?_
  have l4 : ∀ (k s : Nat) (M4 : Mem), s ≤ 2000 → 2000 - s ≤ k → clrM M = up2 (up2 (fil M4 47 2000 (-1)) 52 0 0) 53 0 0 → WR (CalR d) t_X9_clear 9 none (fun v' M' => v' = none ∧ M' = clrM M) 175 [(1, .int (nI s)), (0, .ref 0)] [] (fil M4 47 s (-1)) := by
    intro k
    induction k with
    | zero =>
      intro s M4 hs hk hM
      obtain rfl : s = 2000 := by omega
      refine R_iload_n rfl rfl ?_
      refine R_sipush (y := nI 2000) rfl (by decide) ?_
      refine R_icmp (pc' := 195) rfl rfl (fun hc => ?_) (fun hc => ?_)
      · rw [hM]
        refine R_aload_n rfl rfl ?_
        refine R_iconst (y := nI 0) rfl (by decide) ?_
        refine R_put rfl rfl rfl ?_
        refine R_aload_n rfl rfl ?_
        refine R_iconst (y := nI 0) rfl (by decide) ?_
        refine R_put rfl rfl rfl ?_
        exact R_ret rfl rfl ⟨rfl, rfl⟩
      · exact absurd (show nI 2000 ≤ nI 2000 from Int32.le_refl _) hc
    | succ k ih =>
      intro s M4 hs hk hM
      refine R_iload_n rfl rfl ?_
      refine R_sipush (y := nI 2000) rfl (by decide) ?_
      refine R_icmp (pc' := 195) rfl rfl (fun hc => ?_) (fun hc => ?_)
      · have : s = 2000 := by
          apply Classical.byContradiction
          intro hne
          exact nI_ge (show s < 2000 by omega) (by decide) hc
        subst this
        rw [hM]
        refine R_aload_n rfl rfl ?_
        refine R_iconst (y := nI 0) rfl (by decide) ?_
        refine R_put rfl rfl rfl ?_
        refine R_aload_n rfl rfl ?_
        refine R_iconst (y := nI 0) rfl (by decide) ?_
        refine R_put rfl rfl rfl ?_
        exact R_ret rfl rfl ⟨rfl, rfl⟩
      · have hlt : s < 2000 := Nat.lt_of_not_le (fun q => hc (nI_le q (by omega)))
        refine R_aload_n rfl rfl ?_
        refine R_getA rfl rfl (Or.inl rfl) ?_
        refine R_iload_n rfl rfl ?_
        refine R_iconst (y := (-1)) rfl (by decide) ?_
        refine R_iast rfl rfl rfl (show _ < 2000 from by omega) ?_
        refine R_iinc (lv' := [(1, _), (0, _)]) rfl rfl (by exact nI_1 _) rfl ?_
        refine R_goto (pc' := 175) rfl rfl ?_
        rw [fil_s]
        exact ih (s + 1) M4 (by omega) (by omega) hM
  have l3 : ∀ (k s : Nat) (M3 : Mem), s ≤ 1500 → 1500 - s ≤ k → clrM M = up2 (up2 (fil (cl6 (fil M3 29 1500 0)) 47 2000 (-1)) 52 0 0) 53 0 0 → WR (CalR d) t_X9_clear 9 none (fun v' M' => v' = none ∧ M' = clrM M) 123 [(1, .int (nI s)), (0, .ref 0)] [] (fil M3 29 s 0) := by
    intro k
    induction k with
    | zero =>
      intro s M3 hs hk hM
      obtain rfl : s = 1500 := by omega
      refine R_iload_n rfl rfl ?_
      refine R_sipush (y := nI 1500) rfl (by decide) ?_
      refine R_icmp (pc' := 143) rfl rfl (fun hc => ?_) (fun hc => ?_)
      · refine R_aload_n rfl rfl ?_
        refine R_iconst (y := nI 0) rfl (by decide) ?_
        refine R_put rfl rfl rfl ?_
        refine R_aload_n rfl rfl ?_
        refine R_iconst (y := nI 0) rfl (by decide) ?_
        refine R_put rfl rfl rfl ?_
        refine R_aload_n rfl rfl ?_
        refine R_iconst (y := nI 0) rfl (by decide) ?_
        refine R_put rfl rfl rfl ?_
        refine R_aload_n rfl rfl ?_
        refine R_iconst (y := nI 0) rfl (by decide) ?_
        refine R_put rfl rfl rfl ?_
        refine R_aload_n rfl rfl ?_
        refine R_iconst (y := nI 0) rfl (by decide) ?_
        refine R_put rfl rfl rfl ?_
        refine R_aload_n rfl rfl ?_
        refine R_iconst (y := nI 0) rfl (by decide) ?_
        refine R_put rfl rfl rfl ?_
        refine R_iconst (y := nI 0) rfl (by decide) ?_
        refine R_istore_n (lv' := [(1, _), (0, _)]) rfl rfl ?_
        have h0 := l4 2000 0 (cl6 (fil M3 29 1500 0)) (by omega) (by omega) hM
        rw [fil_0] at h0
        exact h0
      · exact absurd (show nI 1500 ≤ nI 1500 from Int32.le_refl _) hc
    | succ k ih =>
      intro s M3 hs hk hM
      refine R_iload_n rfl rfl ?_
      refine R_sipush (y := nI 1500) rfl (by decide) ?_
      refine R_icmp (pc' := 143) rfl rfl (fun hc => ?_) (fun hc => ?_)
      · have : s = 1500 := by
          apply Classical.byContradiction
          intro hne
          exact nI_ge (show s < 1500 by omega) (by decide) hc
        subst this
        refine R_aload_n rfl rfl ?_
        refine R_iconst (y := nI 0) rfl (by decide) ?_
        refine R_put rfl rfl rfl ?_
        refine R_aload_n rfl rfl ?_
        refine R_iconst (y := nI 0) rfl (by decide) ?_
        refine R_put rfl rfl rfl ?_
        refine R_aload_n rfl rfl ?_
        refine R_iconst (y := nI 0) rfl (by decide) ?_
        refine R_put rfl rfl rfl ?_
        refine R_aload_n rfl rfl ?_
        refine R_iconst (y := nI 0) rfl (by decide) ?_
        refine R_put rfl rfl rfl ?_
        refine R_aload_n rfl rfl ?_
        refine R_iconst (y := nI 0) rfl (by decide) ?_
        refine R_put rfl rfl rfl ?_
        refine R_aload_n rfl rfl ?_
        refine R_iconst (y := nI 0) rfl (by decide) ?_
        refine R_put rfl rfl rfl ?_
        refine R_iconst (y := nI 0) rfl (by decide) ?_
        refine R_istore_n (lv' := [(1, _), (0, _)]) rfl rfl ?_
        have h0 := l4 2000 0 (cl6 (fil M3 29 1500 0)) (by omega) (by omega) hM
        rw [fil_0] at h0
        exact h0
      · have hlt : s < 1500 := Nat.lt_of_not_le (fun q => hc (nI_le q (by omega)))
        refine R_aload_n rfl rfl ?_
        refine R_getA rfl rfl (Or.inl rfl) ?_
        refine R_iload_n rfl rfl ?_
        refine R_iconst (y := nI 0) rfl (by decide) ?_
        refine R_iast rfl rfl rfl (show _ < 1500 from by omega) ?_
        refine R_iinc (lv' := [(1, _), (0, _)]) rfl rfl (by exact nI_1 _) rfl ?_
        refine R_goto (pc' := 123) rfl rfl ?_
        rw [nI_0, fil_s]
        exact ih (s + 1) M3 (by omega) (by omega) hM
  have l2 : ∀ (k s : Nat) (M2 : Mem), s ≤ 4 → 4 - s ≤ k → clrM M = up2 (up2 (fil (cl6 (fil (up2 (fil M2 25 4 (-1)) 28 0 0) 29 1500 0)) 47 2000 (-1)) 52 0 0) 53 0 0 → WR (CalR d) t_X9_clear 9 none (fun v' M' => v' = none ∧ M' = clrM M) 98 [(1, .int (nI s)), (0, .ref 0)] [] (fil M2 25 s (-1)) := by
    intro k
    induction k with
    | zero =>
      intro s M2 hs hk hM
      obtain rfl : s = 4 := by omega
      refine R_iload_n rfl rfl ?_
      refine R_iconst (y := nI 4) rfl (by decide) ?_
      refine R_icmp (pc' := 116) rfl rfl (fun hc => ?_) (fun hc => ?_)
      · refine R_aload_n rfl rfl ?_
        refine R_iconst (y := nI 0) rfl (by decide) ?_
        refine R_put rfl rfl rfl ?_
        refine R_iconst (y := nI 0) rfl (by decide) ?_
        refine R_istore_n (lv' := [(1, _), (0, _)]) rfl rfl ?_
        have h0 := l3 1500 0 (up2 (fil M2 25 4 (-1)) 28 0 0) (by omega) (by omega) hM
        rw [fil_0] at h0
        exact h0
      · exact absurd (show nI 4 ≤ nI 4 from Int32.le_refl _) hc
    | succ k ih =>
      intro s M2 hs hk hM
      refine R_iload_n rfl rfl ?_
      refine R_iconst (y := nI 4) rfl (by decide) ?_
      refine R_icmp (pc' := 116) rfl rfl (fun hc => ?_) (fun hc => ?_)
      · have : s = 4 := by
          apply Classical.byContradiction
          intro hne
          exact nI_ge (show s < 4 by omega) (by decide) hc
        subst this
        refine R_aload_n rfl rfl ?_
        refine R_iconst (y := nI 0) rfl (by decide) ?_
        refine R_put rfl rfl rfl ?_
        refine R_iconst (y := nI 0) rfl (by decide) ?_
        refine R_istore_n (lv' := [(1, _), (0, _)]) rfl rfl ?_
        have h0 := l3 1500 0 (up2 (fil M2 25 4 (-1)) 28 0 0) (by omega) (by omega) hM
        rw [fil_0] at h0
        exact h0
      · have hlt : s < 4 := Nat.lt_of_not_le (fun q => hc (nI_le q (by omega)))
        refine R_aload_n rfl rfl ?_
        refine R_getA rfl rfl (Or.inl rfl) ?_
        refine R_iload_n rfl rfl ?_
        refine R_iconst (y := (-1)) rfl (by decide) ?_
        refine R_iast rfl rfl rfl (show _ < 4 from by omega) ?_
        refine R_iinc (lv' := [(1, _), (0, _)]) rfl rfl (by exact nI_1 _) rfl ?_
        refine R_goto (pc' := 98) rfl rfl ?_
        rw [fil_s]
        exact ih (s + 1) M2 (by omega) (by omega) hM
  have l1 : ∀ (k s : Nat), s ≤ 16 → 16 - s ≤ k → WR (CalR d) t_X9_clear 9 none (fun v' M' => v' = none ∧ M' = clrM M) 56 [(1, .int (nI s)), (0, .ref 0)] [] (cl2 (cl1 M) s) := by
    intro k
    induction k with
    | zero =>
      intro s hs hk
      obtain rfl : s = 16 := by omega
      refine R_iload_n rfl rfl ?_
      refine R_bipush (y := nI 16) rfl (by decide) ?_
      refine R_icmp (pc' := 96) rfl rfl (fun hc => ?_) (fun hc => ?_)
      · refine R_iconst (y := nI 0) rfl (by decide) ?_
        refine R_istore_n (lv' := [(1, _), (0, _)]) rfl rfl ?_
        have h0 := l2 4 0 (cl2 (cl1 M) 16) (by omega) (by omega) rfl
        rw [fil_0] at h0
        exact h0
      · exact absurd (show nI 16 ≤ nI 16 from Int32.le_refl _) hc
    | succ k ih =>
      intro s hs hk
      refine R_iload_n rfl rfl ?_
      refine R_bipush (y := nI 16) rfl (by decide) ?_
      refine R_icmp (pc' := 96) rfl rfl (fun hc => ?_) (fun hc => ?_)
      · have : s = 16 := by
          apply Classical.byContradiction
          intro hne
          exact nI_ge (show s < 16 by omega) (by decide) hc
        subst this
        refine R_iconst (y := nI 0) rfl (by decide) ?_
        refine R_istore_n (lv' := [(1, _), (0, _)]) rfl rfl ?_
        have h0 := l2 4 0 (cl2 (cl1 M) 16) (by omega) (by omega) rfl
        rw [fil_0] at h0
        exact h0
      · have hlt : s < 16 := Nat.lt_of_not_le (fun q => hc (nI_le q (by omega)))
        refine R_aload_n rfl rfl ?_
        refine R_getA rfl rfl (Or.inl rfl) ?_
        refine R_iload_n rfl rfl ?_
        refine R_iconst (y := nI 0) rfl (by decide) ?_
        refine R_iast rfl rfl rfl (show _ < 3200 from by omega) ?_
        refine R_aload_n rfl rfl ?_
        refine R_getA rfl rfl (Or.inl rfl) ?_
        refine R_iload_n rfl rfl ?_
        refine R_iconst (y := nI 0) rfl (by decide) ?_
        refine R_iast rfl rfl rfl (show _ < 3200 from by omega) ?_
        refine R_aload_n rfl rfl ?_
        refine R_getA rfl rfl (Or.inl rfl) ?_
        refine R_iload_n rfl rfl ?_
        refine R_iconst (y := nI 0) rfl (by decide) ?_
        refine R_iast rfl rfl rfl (show _ < 16 from by omega) ?_
        refine R_aload_n rfl rfl ?_
        refine R_getA rfl rfl (Or.inl rfl) ?_
        refine R_iload_n rfl rfl ?_
        refine R_iconst (y := nI 0) rfl (by decide) ?_
        refine R_iast rfl rfl rfl (show _ < 16 from by omega) ?_
        refine R_iinc (lv' := [(1, _), (0, _)]) rfl rfl (by exact nI_1 _) rfl ?_
        refine R_goto (pc' := 56) rfl rfl ?_
        rw [nI_0, cl2_s]
        exact ih (s + 1) (by omega) (by omega)
  have h0 := l1 16 0 (by omega) (by omega)
  rw [cl2_0] at h0
  exact h0
def asmM (M : Mem) (w : Nat) (o a b : Int32) : Mem := clrM (up2 (up2 (up2 (up2 (up2 M 2 w o) 3 w a) 4 w b) 5 0 (nI (w + 1))) 7 0 0)
theorem r_asm {d : Nat} {M : Mem} {w : Nat} {o a b : Int32} (hw : M 5 0 = nI w) (hw2 : w < 2000) : CalR (d + 2) j_X9_asm [.ref 0, .int o, .int a, .int b] M (some (.int (nI (w + 1)))) (asmM M w o a b) := by
  refine CalR_of (md := md_X9_asm) (d := d + 1) rfl (Nat.le_of_ble_eq_true rfl) ?_
  show WR (CalR (d + 1)) t_X9_asm 9 (some .int) _ 0 [(0, .ref 0), (1, .int o), (2, .int a), (3, .int b)] [] _
  refine R_aload_n rfl rfl ?_
  refine R_getI rfl rfl (Or.inl rfl) ?_
  try refine R_top (y := nI _) (by assumption) ?_
  refine R_sipush (y := nI 2000) rfl (by decide) ?_
  refine R_icmp (pc' := 13) rfl rfl (fun hc => ?_) (fun hc => ?_)
  · refine R_aload_n rfl rfl ?_
    refine R_getA rfl rfl (Or.inl rfl) ?_
    refine R_aload_n rfl rfl ?_
    refine R_getI rfl rfl (Or.inl rfl) ?_
    try refine R_top (y := nI _) (by assumption) ?_
    refine R_iload_n rfl rfl ?_
    refine R_iast rfl rfl rfl (show _ < 2000 from by omega) ?_
    refine R_aload_n rfl rfl ?_
    refine R_getA rfl rfl (Or.inl rfl) ?_
    refine R_aload_n rfl rfl ?_
    refine R_getI rfl rfl (Or.inl rfl) ?_
    try refine R_top (y := nI _) (by assumption) ?_
    refine R_iload_n rfl rfl ?_
    refine R_iast rfl rfl rfl (show _ < 2000 from by omega) ?_
    refine R_aload_n rfl rfl ?_
    refine R_getA rfl rfl (Or.inl rfl) ?_
    refine R_aload_n rfl rfl ?_
    refine R_getI rfl rfl (Or.inl rfl) ?_
    try refine R_top (y := nI _) (by assumption) ?_
    refine R_iload_n rfl rfl ?_
    refine R_iast rfl rfl rfl (show _ < 2000 from by omega) ?_
    refine R_aload_n rfl rfl ?_
    refine R_dup rfl ?_
    refine R_getI rfl rfl (Or.inl rfl) ?_
    try refine R_top (y := nI _) (by assumption) ?_
    refine R_iconst (y := nI 1) rfl (by decide) ?_
    first | refine R_iaddN rfl ?_ | refine R_iadd rfl ?_
    refine R_put rfl rfl rfl ?_
    refine R_aload_n rfl rfl ?_
    refine R_iconst (y := nI 0) rfl (by decide) ?_
    refine R_putZ rfl rfl rfl (by first | exact Or.inl rfl | exact Or.inr rfl | assumption) ?_
    refine R_aload_n rfl rfl ?_
    refine R_virt rfl rfl rfl rfl rfl rfl rfl (Nat.le_of_ble_eq_true rfl) (fun _ q => by cases q) (r_clear) ?_
    refine R_aload_n rfl rfl ?_
    refine R_getI rfl rfl (Or.inl rfl) ?_
    try refine R_top (y := nI _) (by assumption) ?_
    exact R_iret rfl rfl (by first | trivial | exact Or.inl rfl | exact Or.inr rfl | assumption) ⟨rfl, rfl⟩
  · exact absurd (fun q => absurd ((nI_eq (by omega) (by omega)).mp q) (by omega)) hc
theorem r_wipe {d : Nat} {M : Mem} : CalR (d + 2) j_X9_wipe [.ref 0] M (some (.int (M 5 0))) (clrM (up2 (up2 M 5 0 0) 7 0 0)) := by
  refine CalR_of (md := md_X9_wipe) (d := d + 1) rfl (Nat.le_of_ble_eq_true rfl) ?_
  show WR (CalR (d + 1)) t_X9_wipe 9 (some .int) _ 0 [(0, .ref 0)] [] _
  refine R_aload_n rfl rfl ?_
  refine R_getI rfl rfl (Or.inl rfl) ?_
  try refine R_top (y := nI _) (by assumption) ?_
  refine R_istore_n (lv' := [(1, _), (0, _)]) rfl rfl ?_
  refine R_aload_n rfl rfl ?_
  refine R_iconst (y := nI 0) rfl (by decide) ?_
  refine R_put rfl rfl rfl ?_
  refine R_aload_n rfl rfl ?_
  refine R_iconst (y := nI 0) rfl (by decide) ?_
  refine R_putZ rfl rfl rfl (by first | exact Or.inl rfl | exact Or.inr rfl | assumption) ?_
  refine R_aload_n rfl rfl ?_
  refine R_virt rfl rfl rfl rfl rfl rfl rfl (Nat.le_of_ble_eq_true rfl) (fun _ q => by cases q) (r_clear) ?_
  refine R_iload_n rfl rfl ?_
  exact R_iret rfl rfl (by first | trivial | exact Or.inl rfl | exact Or.inr rfl | assumption) ⟨rfl, rfl⟩
theorem r_fault {d : Nat} {M : Mem} : CalR (d + 1) j_X9_fault [.ref 0] M (some (.int (M 8 0))) M := by
  refine CalR_of (md := md_X9_fault) rfl (Nat.le_of_ble_eq_true rfl) ?_
  show WR (CalR d) t_X9_fault 9 (some .int) _ 0 [(0, .ref 0)] [] _
  refine R_aload_n rfl rfl ?_
  refine R_getI rfl rfl (Or.inl rfl) ?_
  try refine R_top (y := nI _) (by assumption) ?_
  exact R_iret rfl rfl (by first | trivial | exact Or.inl rfl | exact Or.inr rfl | assumption) ⟨rfl, rfl⟩
theorem r_outSize {d : Nat} {M : Mem} : CalR (d + 1) j_X9_outSize [.ref 0] M (some (.int (M 28 0))) M := by
  refine CalR_of (md := md_X9_outSize) rfl (Nat.le_of_ble_eq_true rfl) ?_
  show WR (CalR d) t_X9_outSize 9 (some .int) _ 0 [(0, .ref 0)] [] _
  refine R_aload_n rfl rfl ?_
  refine R_getI rfl rfl (Or.inl rfl) ?_
  try refine R_top (y := nI _) (by assumption) ?_
  exact R_iret rfl rfl (by first | trivial | exact Or.inl rfl | exact Or.inr rfl | assumption) ⟨rfl, rfl⟩
theorem dn_up {P : Nat → Prop} {N : Nat} (hend : P N) (hstep : ∀ s, s < N → P (s + 1) → P s) : ∀ s, s ≤ N → P s := by
  have h : ∀ (k s : Nat), s ≤ N → N - s ≤ k → P s := by
    intro k
    induction k with
    | zero =>
      intro s h1 h2
      obtain rfl : s = N := by omega
      exact hend
    | succ k ih =>
      intro s h1 h2
      by_cases h : s = N
      · rw [h]; exact hend
      · exact hstep s (by omega) (ih (s + 1) (by omega) (by omega))
  exact fun s hs => h N s hs (by omega)
theorem ge_no {s N : Nat} (h : s < N) (hN : N < 2 ^ 31) (hc : nI N ≤ nI s) : False := nI_ge h hN hc
theorem ge_yes {N : Nat} (hc : ¬ nI N ≤ nI N) : False := hc (Int32.le_refl _)
