/-! ===== the reference: free, major, heldCells ===== -/
def sumN (f : Nat → Nat) : Nat → Nat
  | 0 => 0
  | n + 1 => sumN f n + f n
def szM (M : Mem) (i : Nat) : Nat := 3 + (M 32 i).toNatClampNeg
def eqm (M M1 : Mem) : Prop := ∀ k j, (k < 37 ∨ 39 < k) → M1 k j = M k j
/-- behind the freeing of those places below s that F names -/
def gcM (M : Mem) (F : Nat → Bool) (s : Nat) : Mem := fun k => if k = 29 then (fun j => if j < s ∧ F j = true then 0 else M 29 j) else if k = 41 then (fun j => if j = 0 then M 41 0 - nI (sumN (fun i => if F i = true ∧ M 30 i = 0 then szM M i else 0) s) else M 41 j) else if k = 42 then (fun j => if j = 0 then M 42 0 - nI (sumN (fun i => if F i = true ∧ ¬ M 30 i = 0 then szM M i else 0) s) else M 42 j) else if k = 43 then (fun j => if j = 0 then M 43 0 + nI (sumN (fun i => if F i = true then 1 else 0) s) else M 43 j) else M k
def freeM (M : Mem) (i n : Nat) : Mem := up2 (up2 (if M 30 i = 0 then up2 M 41 0 (M 41 0 - nI (3 + n)) else up2 M 42 0 (M 42 0 - nI (3 + n))) 29 i 0) 43 0 (M 43 0 + 1)
theorem gcM_0 (M : Mem) (F : Nat → Bool) : gcM M F 0 = M := by
  funext k j
  unfold gcM
  by_cases h1 : k = 29
  · subst h1; simp
  · by_cases h2 : k = 41
    · subst h2
      simp only [sumN, nI_0, Int32.sub_zero]
      by_cases hj : j = 0
      · subst hj; simp
      · simp [hj]
    · by_cases h3 : k = 42
      · subst h3
        simp only [sumN, nI_0, Int32.sub_zero]
        by_cases hj : j = 0
        · subst hj; simp
        · simp [hj]
      · by_cases h4 : k = 43
        · subst h4
          simp only [sumN, nI_0, Int32.add_zero]
          by_cases hj : j = 0
          · subst hj; simp
          · simp [hj]
        · simp [h1, h2, h3, h4]
theorem gcM_no {M : Mem} {F : Nat → Bool} {s : Nat} (h : F s = false) : gcM M F (s + 1) = gcM M F s := by
  funext k j
  unfold gcM
  have h29 : (if j < s + 1 ∧ F j = true then (0 : Int32) else M 29 j) = if j < s ∧ F j = true then 0 else M 29 j := by
    by_cases hj : j = s
    · subst hj
      simp [h]
    · have : (j < s + 1) ↔ (j < s) := by omega
      simp [this]
  by_cases hk : k = 29
  · subst hk
    exact h29
  · simp [hk, sumN, h]
theorem subN (x : Int32) (a b : Nat) : x - nI a - nI b = x - nI (a + b) := by
  rw [← nI_add]
  exact Int32.sub_sub ..
theorem gcM_yes {M : Mem} {F : Nat → Bool} {s n : Nat} (h : F s = true) (hn : M 32 s = nI n) (hn4 : n ≤ 40) : freeM (gcM M F s) s n = gcM M F (s + 1) := by
  have hsz : szM M s = 3 + n := by
    unfold szM
    rw [hn, nI_clamp (by omega)]
  have h30 : gcM M F s 30 s = M 30 s := rfl
  funext k j
  unfold freeM
  rw [h30]
  by_cases ho : M 30 s = 0
  · rw [if_pos ho]
    unfold up2 upd
    by_cases h1 : k = 43
    · subst h1
      simp only [if_true]
      show (if j = 0 then gcM M F s 43 0 + 1 else gcM M F s 43 j) = gcM M F (s + 1) 43 j
      by_cases hj : j = 0
      · subst hj
        show M 43 0 + nI _ + 1 = M 43 0 + nI _
        rw [sumN, h, Int32.add_assoc]
        congr 1
        exact nI_1 _
      · rw [if_neg hj]
        show (if j = 0 then _ else M 43 j) = (if j = 0 then _ else M 43 j)
        rw [if_neg hj, if_neg hj]
    · rw [if_neg h1]
      by_cases h2 : k = 29
      · subst h2
        show (if j = s then (0 : Int32) else if j < s ∧ F j = true then 0 else M 29 j) = if j < s + 1 ∧ F j = true then 0 else M 29 j
        by_cases hj : j = s
        · subst hj
          rw [if_pos rfl, if_pos ⟨by omega, h⟩]
        · have : (j < s + 1) ↔ (j < s) := by omega
          simp [hj, this]
      · rw [if_neg h2]
        by_cases h3 : k = 41
        · subst h3
          show (if j = 0 then gcM M F s 41 0 - nI (3 + n) else gcM M F s 41 j) = gcM M F (s + 1) 41 j
          by_cases hj : j = 0
          · subst hj
            show M 41 0 - nI _ - nI (3 + n) = M 41 0 - nI _
            rw [sumN, if_pos ⟨h, ho⟩, hsz, subN]
          · rw [if_neg hj]
            show (if j = 0 then _ else M 41 j) = (if j = 0 then _ else M 41 j)
            rw [if_neg hj, if_neg hj]
        · rw [if_neg h3]
          unfold gcM
          rw [if_neg h2, if_neg h3, if_neg h1, if_neg h2, if_neg h3, if_neg h1]
          by_cases h4 : k = 42
          · subst h4
            simp only [if_true, sumN]
            rw [if_neg (fun q : F s = true ∧ ¬ M 30 s = 0 => q.2 ho)]
            rfl
          · simp [h4]
  · rw [if_neg ho]
    unfold up2 upd
    by_cases h1 : k = 43
    · subst h1
      simp only [if_true]
      show (if j = 0 then gcM M F s 43 0 + 1 else gcM M F s 43 j) = gcM M F (s + 1) 43 j
      by_cases hj : j = 0
      · subst hj
        show M 43 0 + nI _ + 1 = M 43 0 + nI _
        rw [sumN, h, Int32.add_assoc]
        congr 1
        exact nI_1 _
      · rw [if_neg hj]
        show (if j = 0 then _ else M 43 j) = (if j = 0 then _ else M 43 j)
        rw [if_neg hj, if_neg hj]
    · rw [if_neg h1]
      by_cases h2 : k = 29
      · subst h2
        show (if j = s then (0 : Int32) else if j < s ∧ F j = true then 0 else M 29 j) = if j < s + 1 ∧ F j = true then 0 else M 29 j
        by_cases hj : j = s
        · subst hj
          rw [if_pos rfl, if_pos ⟨by omega, h⟩]
        · have : (j < s + 1) ↔ (j < s) := by omega
          simp [hj, this]
      · rw [if_neg h2]
        by_cases h3 : k = 42
        · subst h3
          show (if j = 0 then gcM M F s 42 0 - nI (3 + n) else gcM M F s 42 j) = gcM M F (s + 1) 42 j
          by_cases hj : j = 0
          · subst hj
            show M 42 0 - nI _ - nI (3 + n) = M 42 0 - nI _
            rw [sumN, if_pos ⟨h, ho⟩, hsz, subN]
          · rw [if_neg hj]
            show (if j = 0 then _ else M 42 j) = (if j = 0 then _ else M 42 j)
            rw [if_neg hj, if_neg hj]
        · rw [if_neg h3]
          unfold gcM
          rw [if_neg h2, if_neg h1, if_neg h3, if_neg h2, if_neg h1, if_neg h3]
          by_cases h4 : k = 41
          · subst h4
            simp only [if_true, sumN]
            rw [if_neg (fun q : F s = true ∧ M 30 s = 0 => ho q.2)]
            rfl
          · simp [h4]
theorem r_free {d : Nat} {M : Mem} {i n : Nat} (hi : i < 1500) (hn : M 32 i = nI n) : CalR (d + 2) j_X9_free [.ref 0, .int (nI i)] M none (freeM M i n) := by
  refine CalR_of (md := md_X9_free) (d := d + 1) rfl (Nat.le_of_ble_eq_true rfl) ?_
  show WR (CalR (d + 1)) t_X9_free 9 none _ 0 [(0, .ref 0), (1, .int (nI i))] [] _
  unfold freeM
  refine R_aload_n rfl rfl ?_
  refine R_getA rfl rfl (Or.inr rfl) ?_
  refine R_iload_n rfl rfl ?_
  refine R_bald rfl rfl rfl (show _ < 1500 from by omega) ?_
  try refine R_top (y := nI _) (by assumption) ?_
  refine R_if (pc' := 26) rfl rfl (fun hc => ?_) (fun hc => ?_)
  · rw [if_pos (show M 30 i = 0 from hc)]
    refine R_aload_n rfl rfl ?_
    refine R_aload_n rfl rfl ?_
    refine R_getI rfl rfl (Or.inl rfl) ?_
    try refine R_top (y := nI _) (by assumption) ?_
    refine R_aload_n rfl rfl ?_
    refine R_iload_n rfl rfl ?_
    refine R_virt rfl rfl rfl rfl rfl rfl rfl (Nat.le_of_ble_eq_true rfl) (fun _ q => by cases q) (r_sizeOf hi hn) ?_
    first | refine R_isubN rfl (by omega) ?_ | refine R_isub rfl ?_
    refine R_put rfl rfl rfl ?_
    refine R_aload_n rfl rfl ?_
    refine R_getA rfl rfl (Or.inl rfl) ?_
    refine R_iload_n rfl rfl ?_
    refine R_iconst (y := nI 0) rfl (by decide) ?_
    refine R_iast rfl rfl rfl (show _ < 1500 from by omega) ?_
    refine R_aload_n rfl rfl ?_
    refine R_dup rfl ?_
    refine R_getI rfl rfl (Or.inl rfl) ?_
    try refine R_top (y := nI _) (by assumption) ?_
    refine R_iconst (y := nI 1) rfl (by decide) ?_
    first | refine R_iaddN rfl ?_ | refine R_iadd rfl ?_
    refine R_put rfl rfl rfl ?_
    exact R_ret rfl rfl ⟨rfl, rfl⟩
  · rw [if_neg (show ¬ M 30 i = 0 from hc)]
    refine R_aload_n rfl rfl ?_
    refine R_aload_n rfl rfl ?_
    refine R_getI rfl rfl (Or.inl rfl) ?_
    try refine R_top (y := nI _) (by assumption) ?_
    refine R_aload_n rfl rfl ?_
    refine R_iload_n rfl rfl ?_
    refine R_virt rfl rfl rfl rfl rfl rfl rfl (Nat.le_of_ble_eq_true rfl) (fun _ q => by cases q) (r_sizeOf hi hn) ?_
    first | refine R_isubN rfl (by omega) ?_ | refine R_isub rfl ?_
    refine R_put rfl rfl rfl ?_
    refine R_goto (pc' := 40) rfl rfl ?_
    refine R_aload_n rfl rfl ?_
    refine R_getA rfl rfl (Or.inl rfl) ?_
    refine R_iload_n rfl rfl ?_
    refine R_iconst (y := nI 0) rfl (by decide) ?_
    refine R_iast rfl rfl rfl (show _ < 1500 from by omega) ?_
    refine R_aload_n rfl rfl ?_
    refine R_dup rfl ?_
    refine R_getI rfl rfl (Or.inl rfl) ?_
    try refine R_top (y := nI _) (by assumption) ?_
    refine R_iconst (y := nI 1) rfl (by decide) ?_
    first | refine R_iaddN rfl ?_ | refine R_iadd rfl ?_
    refine R_put rfl rfl rfl ?_
    exact R_ret rfl rfl ⟨rfl, rfl⟩
theorem gcM_eqm {M M1 : Mem} {F : Nat → Bool} (h : eqm M M1) (s : Nat) : eqm (gcM M F s) (gcM M1 F s) := by
  intro k j hk
  have e : ∀ k j, (k < 37 ∨ 39 < k) → M1 k j = M k j := h
  have e32 : ∀ i, szM M1 i = szM M i := fun i => by unfold szM; rw [e 32 i (by omega)]
  unfold gcM
  simp only [e 29 _ (by omega), e 30 _ (by omega), e 41 _ (by omega), e 42 _ (by omega), e 43 _ (by omega), e32]
  by_cases h1 : k = 29
  · simp [h1]
  · by_cases h2 : k = 41
    · simp [h2]
    · by_cases h3 : k = 42
      · simp [h3]
      · by_cases h4 : k = 43
        · simp [h4]
        · simp only [h1, h2, h3, h4, if_false]
          exact e k j hk
/-- who is freed by a MAJOR that has found the list L -/
def frJ (M : Mem) (L : List Nat) : Nat → Bool := fun i => decide (0 < M 29 i) && !decide (i ∈ L)
theorem subS (x y : Int32) (a b : Nat) : x + y - (x - nI a) - (y - nI b) = nI (a + b) := by
  rw [← nI_add]
  apply Int32.toBitVec_inj.mp
  simp only [Int32.toBitVec_sub, Int32.toBitVec_add]
  generalize x.toBitVec = p
  generalize y.toBitVec = q
  generalize (nI a).toBitVec = r
  generalize (nI b).toBitVec = t
  apply BitVec.eq_of_toNat_eq
  simp only [BitVec.toNat_sub, BitVec.toNat_add]
  omega
theorem sum_split (f g h : Nat → Nat) (hh : ∀ i, f i + g i = h i) : ∀ n, sumN f n + sumN g n = sumN h n
  | 0 => rfl
  | n + 1 => by
    have := sum_split f g h hh n
    have := hh n
    simp only [sumN]
    omega
theorem r_major {d : Nat} {M : Mem} {p f : Nat} {lm : Nat → Nat} (hw : wfR M p f lm) : CQ (d + 3) j_X9_major [.ref 0] M (fun v M2 => ∃ L, (∀ i, i < 1500 → (i ∈ L ↔ rchR M p f lm ((0 : Int32) = 1) i)) ∧ v = some (.int (nI (sumN (fun i => if frJ M L i = true then szM M i else 0) 1500))) ∧ eqm (up2 (gcM M (frJ M L) 1500) 45 0 (M 45 0 + 1)) M2) := by
  refine CQ_of (md := md_X9_major) (d := d + 2) rfl (Nat.le_of_ble_eq_true rfl) ?_
  show WR (CalR (d + 2)) t_X9_major 9 (some .int) _ 0 [(0, .ref 0)] [] _
  refine R_aload_n rfl rfl ?_
  refine R_iconst (y := nI 0) rfl (by decide) ?_
  refine R_vq rfl rfl rfl rfl rfl rfl rfl (Nat.le_of_ble_eq_true rfl) (r_reach hw (Or.inl rfl)) ?_
  rintro v M1 ⟨rfl, L, hmk, hL⟩
  have heq : eqm M M1 := hmk.1
  refine R_aload_n rfl rfl ?_
  refine R_getI rfl rfl (Or.inl rfl) ?_
  try refine R_top (y := nI _) (by assumption) ?_
  refine R_aload_n rfl rfl ?_
  refine R_getI rfl rfl (Or.inl rfl) ?_
  try refine R_top (y := nI _) (by assumption) ?_
  first | refine R_iaddN rfl ?_ | refine R_iadd rfl ?_
  refine R_istore_n (lv' := [(1, _), (0, _)]) rfl rfl ?_
  refine R_iconst (y := nI 0) rfl (by decide) ?_
  refine R_istore_n (lv' := [(2, _), (1, _), (0, _)]) rfl rfl ?_
  have hfr : ∀ i, frJ M1 L i = frJ M L i := fun i => by unfold frJ; rw [heq 29 i (by omega)]
  refine dn_up (P := fun s => WR (CalR (d + 2)) t_X9_major 9 (some .int) _ 17 [(2, .int (nI s)), (1, .int (M1 41 0 + M1 42 0)), (0, .ref 0)] [] (gcM M1 (frJ M L) s)) (N := 1500) ?_ ?_ 0 (Nat.zero_le _) |> fun h0 => by
    rw [gcM_0] at h0
    exact h0
  · refine R_iload_n rfl rfl ?_
    refine R_sipush (y := nI 1500) rfl (by decide) ?_
    refine R_icmp (pc' := 53) rfl rfl (fun hc => ?_) (fun hc => ?_)
    · refine R_aload_n rfl rfl ?_
      refine R_dup rfl ?_
      refine R_getI rfl rfl (Or.inl rfl) ?_
      try refine R_top (y := nI _) (by assumption) ?_
      refine R_iconst (y := nI 1) rfl (by decide) ?_
      first | refine R_iaddN rfl ?_ | refine R_iadd rfl ?_
      refine R_put rfl rfl rfl ?_
      refine R_iload_n rfl rfl ?_
      refine R_aload_n rfl rfl ?_
      refine R_getI rfl rfl (Or.inl rfl) ?_
      refine R_isub rfl ?_
      refine R_aload_n rfl rfl ?_
      refine R_getI rfl rfl (Or.inl rfl) ?_
      refine R_isub rfl ?_
      have hv : M1 41 0 + M1 42 0 - up2 (gcM M1 (frJ M L) 1500) 45 0 (gcM M1 (frJ M L) 1500 45 0 + nI 1) 41 0 - up2 (gcM M1 (frJ M L) 1500) 45 0 (gcM M1 (frJ M L) 1500 45 0 + nI 1) 42 0 = nI (sumN (fun i => if frJ M L i = true then szM M i else 0) 1500) := by
        show M1 41 0 + M1 42 0 - (M1 41 0 - nI (sumN (fun i => if frJ M L i = true ∧ M1 30 i = 0 then szM M1 i else 0) 1500)) - (M1 42 0 - nI (sumN (fun i => if frJ M L i = true ∧ ¬ M1 30 i = 0 then szM M1 i else 0) 1500)) = _
        rw [subS, sum_split _ _ (fun i => if frJ M L i = true then szM M i else 0) (fun i => ?_)]
        have e32 : szM M1 i = szM M i := by unfold szM; rw [heq 32 i (by omega)]
        rw [e32]
        by_cases q1 : frJ M L i = true <;> by_cases q2 : M1 30 i = 0 <;> simp [q1, q2]
      refine R_top hv ?_
      refine R_iret rfl rfl trivial ⟨L, hL, rfl, fun k j hk => ?_⟩
      by_cases h45 : k = 45
      · subst h45
        show upd (gcM M1 (frJ M L) 1500 45) 0 (gcM M1 (frJ M L) 1500 45 0 + nI 1) j = upd (gcM M (frJ M L) 1500 45) 0 (M 45 0 + 1) j
        unfold upd
        by_cases hj : j = 0
        · rw [if_pos hj, if_pos hj]
          show M1 45 0 + nI 1 = M 45 0 + 1
          rw [heq 45 0 (by omega)]
          rfl
        · rw [if_neg hj, if_neg hj]
          show M1 45 j = M 45 j
          exact heq 45 j (by omega)
      · unfold up2
        rw [if_neg h45, if_neg h45]
        exact gcM_eqm heq 1500 k j hk
    · exact (ge_yes hc).elim
  · intro s hs nx
    obtain ⟨n, hn4, hn⟩ := (hw.2.2.2.2.2.2.2.2.2.2 s hs).1
    have hn1 : M1 32 s = nI n := (heq 32 s (by omega)).trans hn
    have hskip : frJ M L s = false → WR (CalR (d + 2)) t_X9_major 9 (some .int) (fun v M2 => ∃ L, (∀ i, i < 1500 → (i ∈ L ↔ rchR M p f lm ((0 : Int32) = 1) i)) ∧ v = some (.int (nI (sumN (fun i => if frJ M L i = true then szM M i else 0) 1500))) ∧ eqm (up2 (gcM M (frJ M L) 1500) 45 0 (M 45 0 + 1)) M2) 47 [(2, .int (nI s)), (1, .int (M1 41 0 + M1 42 0)), (0, .ref 0)] [] (gcM M1 (frJ M L) s) := by
      intro hno
      rw [← gcM_no hno]
      refine R_iinc (lv' := [(2, _), (1, _), (0, _)]) rfl rfl (by exact nI_1 _) rfl ?_
      refine R_goto (pc' := 17) rfl rfl ?_
      exact nx
    have hser : gcM M1 (frJ M L) s 29 s = M 29 s := by
      show (if s < s ∧ _ then (0 : Int32) else M1 29 s) = _
      rw [if_neg (fun q => absurd q.1 (by omega)), heq 29 s (by omega)]
    refine R_iload_n rfl rfl ?_
    refine R_sipush (y := nI 1500) rfl (by decide) ?_
    refine R_icmp (pc' := 53) rfl rfl (fun hc => ?_) (fun hc => ?_)
    · exact (ge_no hs (by omega) hc).elim
    · refine R_aload_n rfl rfl ?_
      refine R_getA rfl rfl (Or.inl rfl) ?_
      refine R_iload_n rfl rfl ?_
      refine R_iald rfl rfl rfl (show _ < 1500 from by omega) ?_
      try refine R_top (y := nI _) (by assumption) ?_
      refine R_top hser ?_
      refine R_if (pc' := 47) rfl rfl (fun hc => ?_) (fun hc => ?_)
      · exact hskip (by unfold frJ; rw [decide_eq_false (Int32.not_lt.mpr hc)]; rfl)
      · have hlive : 0 < M 29 s := Int32.not_le.mp hc
        refine R_aload_n rfl rfl ?_
        refine R_getA rfl rfl (Or.inr rfl) ?_
        refine R_iload_n rfl rfl ?_
        refine R_bald rfl rfl rfl (show _ < 1500 from by omega) ?_
        try refine R_top (y := nI _) (by assumption) ?_
        refine R_top (show gcM M1 (frJ M L) s 37 s = if s ∈ L then 1 else 0 from hmk.2.2.2.2.2 s hs) ?_
        refine R_if (pc' := 47) rfl rfl (fun hc => ?_) (fun hc => ?_)
        · have hin : s ∈ L := by
            apply Classical.byContradiction
            intro hn
            rw [if_neg hn] at hc
            exact hc rfl
          exact hskip (by unfold frJ; simp [hin])
        · have hnin : s ∉ L := by
            intro hin
            rw [if_pos hin] at hc
            exact hc (show ¬ (1 : Int32) = 0 by decide)
          have hF : frJ M L s = true := by unfold frJ; simp [hlive, hnin]
          refine R_aload_n rfl rfl ?_
          refine R_iload_n rfl rfl ?_
          refine R_virt rfl rfl rfl rfl rfl rfl rfl (Nat.le_of_ble_eq_true rfl) (fun _ q => by cases q) (r_free hs (show gcM M1 (frJ M L) s 32 s = nI n from hn1)) ?_
          rw [gcM_yes hF hn1 hn4]
          refine R_iinc (lv' := [(2, _), (1, _), (0, _)]) rfl rfl (by exact nI_1 _) rfl ?_
          refine R_goto (pc' := 17) rfl rfl ?_
          exact nx
