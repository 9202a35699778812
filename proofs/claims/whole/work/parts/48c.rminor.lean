/-! ===== the reference: heldCells, minor, greatHas ===== -/
/-- who is held: young, and in the list L -/
def hdY (M : Mem) (L : List Nat) (i : Nat) : Nat := if 0 < M 29 i ∧ M 30 i = 0 ∧ i ∈ L then szM M i else 0
theorem wfR_eqm {M M1 : Mem} {p f : Nat} {lm : Nat → Nat} (h : eqm M M1) (hw : wfR M p f lm) : wfR M1 p f lm := by
  have e : ∀ k j, (k < 37 ∨ 39 < k) → M1 k j = M k j := h
  unfold wfR at hw ⊢
  simp only [e 14 _ (by omega), e 22 _ (by omega), e 19 _ (by omega), e 12 _ (by omega), e 13 _ (by omega), e 17 _ (by omega), e 18 _ (by omega), e 20 _ (by omega), e 21 _ (by omega), e 23 _ (by omega), e 24 _ (by omega), e 25 _ (by omega), e 32 _ (by omega), e 31 _ (by omega), e 35 _ (by omega), e 36 _ (by omega)]
  exact hw
theorem r_heldCells {d : Nat} {M : Mem} {p f : Nat} {lm : Nat → Nat} (hw : wfR M p f lm) : CQ (d + 3) j_X9_heldCells [.ref 0] M (fun v M2 => ∃ L, mkl M M2 L ∧ (∀ i, i < 1500 → (i ∈ L ↔ rchR M p f lm ((1 : Int32) = 1) i)) ∧ v = some (.int (nI (sumN (hdY M L) 1500)))) := by
  refine CQ_of (md := md_X9_heldCells) (d := d + 2) rfl (Nat.le_of_ble_eq_true rfl) ?_
  show WR (CalR (d + 2)) t_X9_heldCells 9 (some .int) _ 0 [(0, .ref 0)] [] _
  refine R_aload_n rfl rfl ?_
  refine R_iconst (y := nI 1) rfl (by decide) ?_
  refine R_vq rfl rfl rfl rfl rfl rfl rfl (Nat.le_of_ble_eq_true rfl) (r_reach hw (Or.inr rfl)) ?_
  rintro v M1 ⟨rfl, L, hmk, hL⟩
  have heq : eqm M M1 := hmk.1
  refine R_iconst (y := nI 0) rfl (by decide) ?_
  refine R_istore_n (lv' := [(1, _), (0, _)]) rfl rfl ?_
  refine R_iconst (y := nI 0) rfl (by decide) ?_
  refine R_istore_n (lv' := [(2, _), (1, _), (0, _)]) rfl rfl ?_
  refine dn_up (P := fun s => WR (CalR (d + 2)) t_X9_heldCells 9 (some .int) _ 9 [(2, .int (nI s)), (1, .int (nI (sumN (hdY M L) s))), (0, .ref 0)] [] M1) (N := 1500) ?_ ?_ 0 (Nat.zero_le _)
  · refine R_iload_n rfl rfl ?_
    refine R_sipush (y := nI 1500) rfl (by decide) ?_
    refine R_icmp (pc' := 57) rfl rfl (fun hc => ?_) (fun hc => ?_)
    · refine R_iload_n rfl rfl ?_
      exact R_iret rfl rfl trivial ⟨L, hmk, hL, rfl⟩
    · exact (ge_yes hc).elim
  · intro s hs nx
    obtain ⟨n, hn4, hn⟩ := (hw.2.2.2.2.2.2.2.2.2.2 s hs).1
    have hn1 : M1 32 s = nI n := (heq 32 s (by omega)).trans hn
    have hsz : szM M s = 3 + n := by
      unfold szM
      rw [hn, nI_clamp (by omega)]
    have hskip : hdY M L s = 0 → WR (CalR (d + 2)) t_X9_heldCells 9 (some .int) (fun v M2 => ∃ L, mkl M M2 L ∧ (∀ i, i < 1500 → (i ∈ L ↔ rchR M p f lm ((1 : Int32) = 1) i)) ∧ v = some (.int (nI (sumN (hdY M L) 1500)))) 51 [(2, .int (nI s)), (1, .int (nI (sumN (hdY M L) s))), (0, .ref 0)] [] M1 := by
      intro hno
      refine R_iinc (lv' := [(2, _), (1, _), (0, _)]) rfl rfl (by exact nI_1 _) rfl ?_
      refine R_goto (pc' := 9) rfl rfl ?_
      have e : sumN (hdY M L) (s + 1) = sumN (hdY M L) s := by rw [sumN, hno, Nat.add_zero]
      rw [e] at nx
      exact nx
    refine R_iload_n rfl rfl ?_
    refine R_sipush (y := nI 1500) rfl (by decide) ?_
    refine R_icmp (pc' := 57) rfl rfl (fun hc => ?_) (fun hc => ?_)
    · exact (ge_no hs (by omega) hc).elim
    · refine R_aload_n rfl rfl ?_
      refine R_getA rfl rfl (Or.inl rfl) ?_
      refine R_iload_n rfl rfl ?_
      refine R_iald rfl rfl rfl (show _ < 1500 from by omega) ?_
      try refine R_top (y := nI _) (by assumption) ?_
      refine R_top (heq 29 s (by omega)) ?_
      refine R_if (pc' := 51) rfl rfl (fun hc => ?_) (fun hc => ?_)
      · exact hskip (if_neg (fun q => Int32.not_le.mpr q.1 hc))
      · have hlive : 0 < M 29 s := Int32.not_le.mp hc
        refine R_aload_n rfl rfl ?_
        refine R_getA rfl rfl (Or.inr rfl) ?_
        refine R_iload_n rfl rfl ?_
        refine R_bald rfl rfl rfl (show _ < 1500 from by omega) ?_
        try refine R_top (y := nI _) (by assumption) ?_
        refine R_top (heq 30 s (by omega)) ?_
        refine R_if (pc' := 51) rfl rfl (fun hc => ?_) (fun hc => ?_)
        · exact hskip (if_neg (fun q => hc q.2.1))
        · have hy : M 30 s = 0 := Classical.byContradiction (fun q => hc q)
          refine R_aload_n rfl rfl ?_
          refine R_getA rfl rfl (Or.inr rfl) ?_
          refine R_iload_n rfl rfl ?_
          refine R_bald rfl rfl rfl (show _ < 1500 from by omega) ?_
          try refine R_top (y := nI _) (by assumption) ?_
          refine R_top (hmk.2.2.2.2.2 s hs) ?_
          refine R_if (pc' := 51) rfl rfl (fun hc => ?_) (fun hc => ?_)
          · have hnin : s ∉ L := by
              intro hin
              rw [if_pos hin] at hc
              exact absurd hc (show ¬ (1 : Int32) = 0 by decide)
            exact hskip (if_neg (fun q => hnin q.2.2))
          · have hin : s ∈ L := by
              apply Classical.byContradiction
              intro hn
              rw [if_neg hn] at hc
              exact hc rfl
            refine R_iload_n rfl rfl ?_
            refine R_aload_n rfl rfl ?_
            refine R_iload_n rfl rfl ?_
            refine R_virt rfl rfl rfl rfl rfl rfl rfl (Nat.le_of_ble_eq_true rfl) (fun _ q => by cases q) (r_sizeOf hs hn1) ?_
            first | refine R_iaddN rfl ?_ | refine R_iadd rfl ?_
            refine R_istore_n (lv' := [(1, _), (2, _), (0, _)]) rfl rfl ?_
            refine R_iinc (lv' := [(2, _), (1, _), (0, _)]) rfl rfl (by exact nI_1 _) rfl ?_
            refine R_goto (pc' := 9) rfl rfl ?_
            refine R_sub [0, 1, 2] rfl rfl rfl ?_
            have e : sumN (hdY M L) (s + 1) = sumN (hdY M L) s + (3 + n) := by
              rw [sumN, show hdY M L s = 3 + n from (if_pos ⟨hlive, hy, hin⟩).trans hsz]
            rw [e] at nx
            exact nx
/-- who is freed by a MINOR that has found the list L -/
def frN (M : Mem) (L : List Nat) : Nat → Bool := fun i => decide (0 < M 29 i) && decide (M 30 i = 0) && !decide (i ∈ L)
/-- all that are there are old, below s -/
def oldM (M : Mem) (s : Nat) : Mem := fun k => if k = 30 then (fun j => if j < s ∧ 0 < M 29 j then 1 else M 30 j) else M k
/-- behind a MINOR that did all: M1 has its frees done -/
def minM (M : Mem) (L : List Nat) (h : Int32) : Mem := up2 (up2 (up2 (up2 (oldM (gcM M (frN M L) 1500) 1500) 42 0 (gcM M (frN M L) 1500 42 0 + gcM M (frN M L) 1500 41 0)) 41 0 0) 46 0 h) 44 0 (M 44 0 + 1)
theorem oldM_0 (M : Mem) : oldM M 0 = M := by
  funext k j
  unfold oldM
  by_cases h : k = 30
  · subst h; simp
  · simp [h]
theorem oldM_no {M : Mem} {s : Nat} (h : ¬ 0 < M 29 s) : oldM M (s + 1) = oldM M s := by
  funext k j
  unfold oldM
  by_cases hk : k = 30
  · subst hk
    simp only [if_true]
    by_cases hj : j = s
    · subst hj
      simp [h]
    · have : (j < s + 1) ↔ (j < s) := by omega
      simp [this]
  · simp [hk]
theorem oldM_yes {M : Mem} {s : Nat} (h : 0 < M 29 s) : up2 (oldM M s) 30 s 1 = oldM M (s + 1) := by
  funext k j
  unfold up2 upd
  by_cases hk : k = 30
  · subst hk
    show (if j = s then (1 : Int32) else if j < s ∧ 0 < M 29 j then 1 else M 30 j) = if j < s + 1 ∧ 0 < M 29 j then 1 else M 30 j
    by_cases hj : j = s
    · subst hj
      rw [if_pos rfl, if_pos ⟨by omega, h⟩]
    · have : (j < s + 1) ↔ (j < s) := by omega
      simp [hj, this]
  · rw [if_neg hk]
    unfold oldM
    rw [if_neg hk, if_neg hk]
/-- the end of minor, from its frees on -/
theorem r_minorE {d : Nat} {M M1 : Mem} {p f : Nat} {lm : Nat → Nat} {L : List Nat} {h : Int32} {x2 : Value} (hw : wfR M p f lm) (hmk : mkl M M1 L) (Q : Option Value → Mem → Prop) (hQ : ∀ M2, eqm (minM M L h) M2 → Q (some (.int 1)) M2) : WR (CalR (d + 2)) t_X9_minor 9 (some .boolean) Q 43 [(1, .int h), (0, .ref 0)] [] M1 := by
  have heq : eqm M M1 := hmk.1
  have hfin : WR (CalR (d + 2)) t_X9_minor 9 (some .boolean) Q 90 [(2, .int (nI 1500)), (1, .int h), (0, .ref 0)] [] (gcM M1 (frN M L) 1500) := by
    generalize hG : gcM M1 (frN M L) 1500 = G
    have hGe : eqm (gcM M (frN M L) 1500) G := by
      rw [← hG]
      exact gcM_eqm heq 1500
    refine R_iconst (y := nI 0) rfl (by decide) ?_
    refine R_istore_n (lv' := [(2, _), (1, _), (0, _)]) rfl rfl ?_
    refine dn_up (P := fun s => WR (CalR (d + 2)) t_X9_minor 9 (some .boolean) Q 92 [(2, .int (nI s)), (1, .int h), (0, .ref 0)] [] (oldM G s)) (N := 1500) ?_ ?_ 0 (Nat.zero_le _) |> fun h0 => by
      rw [oldM_0] at h0
      exact h0
    · refine R_iload_n rfl rfl ?_
      refine R_sipush (y := nI 1500) rfl (by decide) ?_
      refine R_icmp (pc' := 121) rfl rfl (fun hc => ?_) (fun hc => ?_)
      · refine R_aload_n rfl rfl ?_
        refine R_aload_n rfl rfl ?_
        refine R_getI rfl rfl (Or.inl rfl) ?_
        try refine R_top (y := nI _) (by assumption) ?_
        refine R_aload_n rfl rfl ?_
        refine R_getI rfl rfl (Or.inl rfl) ?_
        try refine R_top (y := nI _) (by assumption) ?_
        first | refine R_iaddN rfl ?_ | refine R_iadd rfl ?_
        refine R_put rfl rfl rfl ?_
        refine R_aload_n rfl rfl ?_
        refine R_iconst (y := nI 0) rfl (by decide) ?_
        refine R_put rfl rfl rfl ?_
        refine R_aload_n rfl rfl ?_
        refine R_iload_n rfl rfl ?_
        refine R_put rfl rfl rfl ?_
        refine R_aload_n rfl rfl ?_
        refine R_dup rfl ?_
        refine R_getI rfl rfl (Or.inl rfl) ?_
        try refine R_top (y := nI _) (by assumption) ?_
        refine R_iconst (y := nI 1) rfl (by decide) ?_
        first | refine R_iaddN rfl ?_ | refine R_iadd rfl ?_
        refine R_put rfl rfl rfl ?_
        refine R_iconst (y := nI 1) rfl (by decide) ?_
        refine R_iret rfl rfl (Or.inr rfl) (hQ _ (fun k j hk => ?_))
        have e : ∀ k j, (k < 37 ∨ 39 < k) → G k j = gcM M (frN M L) 1500 k j := hGe
        have eo : ∀ k j, (k < 37 ∨ 39 < k) → oldM G 1500 k j = oldM (gcM M (frN M L) 1500) 1500 k j := fun k j hk => by
          unfold oldM
          by_cases h30 : k = 30
          · subst h30
            simp only [if_true]
            rw [e 29 j (by omega), e 30 j (by omega)]
          · rw [if_neg h30, if_neg h30]
            exact e k j hk
        unfold minM
        by_cases h44 : k = 44
        · subst h44
          show upd (G 44) 0 (G 44 0 + nI 1) j = upd (gcM M (frN M L) 1500 44) 0 (M 44 0 + 1) j
          unfold upd
          by_cases hj : j = 0
          · rw [if_pos hj, if_pos hj, e 44 0 (by omega)]
            rfl
          · rw [if_neg hj, if_neg hj]
            exact e 44 j (by omega)
        · by_cases h46 : k = 46
          · subst h46
            show upd (G 46) 0 h j = upd (gcM M (frN M L) 1500 46) 0 h j
            unfold upd
            by_cases hj : j = 0
            · rw [if_pos hj, if_pos hj]
            · rw [if_neg hj, if_neg hj]
              exact e 46 j (by omega)
          · by_cases h41 : k = 41
            · subst h41
              show upd (G 41) 0 (nI 0) j = upd (gcM M (frN M L) 1500 41) 0 0 j
              unfold upd
              by_cases hj : j = 0
              · rw [if_pos hj, if_pos hj]
                rfl
              · rw [if_neg hj, if_neg hj]
                exact e 41 j (by omega)
            · by_cases h42 : k = 42
              · subst h42
                show upd (G 42) 0 (G 42 0 + G 41 0) j = upd (gcM M (frN M L) 1500 42) 0 (gcM M (frN M L) 1500 42 0 + gcM M (frN M L) 1500 41 0) j
                unfold upd
                by_cases hj : j = 0
                · rw [if_pos hj, if_pos hj, e 42 0 (by omega), e 41 0 (by omega)]
                · rw [if_neg hj, if_neg hj]
                  exact e 42 j (by omega)
              · unfold up2
                rw [if_neg h44, if_neg h46, if_neg h41, if_neg h42, if_neg h44, if_neg h46, if_neg h41, if_neg h42]
                exact eo k j hk
      · exact (ge_yes hc).elim
    · intro s hs nx
      refine R_iload_n rfl rfl ?_
      refine R_sipush (y := nI 1500) rfl (by decide) ?_
      refine R_icmp (pc' := 121) rfl rfl (fun hc => ?_) (fun hc => ?_)
      · exact (ge_no hs (by omega) hc).elim
      · refine R_aload_n rfl rfl ?_
        refine R_getA rfl rfl (Or.inl rfl) ?_
        refine R_iload_n rfl rfl ?_
        refine R_iald rfl rfl rfl (show _ < 1500 from by omega) ?_
        try refine R_top (y := nI _) (by assumption) ?_
        refine R_top (show oldM G s 29 s = G 29 s from rfl) ?_
        refine R_if (pc' := 115) rfl rfl (fun hc => ?_) (fun hc => ?_)
        · rw [← oldM_no (Int32.not_lt.mpr hc)]
          refine R_iinc (lv' := [(2, _), (1, _), (0, _)]) rfl rfl (by exact nI_1 _) rfl ?_
          refine R_goto (pc' := 92) rfl rfl ?_
          exact nx
        · refine R_aload_n rfl rfl ?_
          refine R_getA rfl rfl (Or.inr rfl) ?_
          refine R_iload_n rfl rfl ?_
          refine R_iconst (y := nI 1) rfl (by decide) ?_
          refine R_bast rfl rfl rfl (show _ < 1500 from by omega) (by first | exact Or.inl rfl | exact Or.inr rfl | assumption) ?_
          refine R_iinc (lv' := [(2, _), (1, _), (0, _)]) rfl rfl (by exact nI_1 _) rfl ?_
          refine R_goto (pc' := 92) rfl rfl ?_
          rw [show nI 1 = 1 from rfl, oldM_yes (Int32.not_le.mp hc)]
          exact nx
  refine R_iconst (y := nI 0) rfl (by decide) ?_
  refine R_istore_n (lv' := [(2, _), (1, _), (0, _)]) rfl rfl ?_
  refine dn_up (P := fun s => WR (CalR (d + 2)) t_X9_minor 9 (some .boolean) Q 45 [(2, .int (nI s)), (1, .int h), (0, .ref 0)] [] (gcM M1 (frN M L) s)) (N := 1500) ?_ ?_ 0 (Nat.zero_le _) |> fun h0 => by
    rw [gcM_0] at h0
    exact h0
  · refine R_iload_n rfl rfl ?_
    refine R_sipush (y := nI 1500) rfl (by decide) ?_
    refine R_icmp (pc' := 90) rfl rfl (fun hc => ?_) (fun hc => ?_)
    · exact hfin
    · exact (ge_yes hc).elim
  · intro s hs nx
    obtain ⟨n, hn4, hn⟩ := (hw.2.2.2.2.2.2.2.2.2.2 s hs).1
    have hn1 : M1 32 s = nI n := (heq 32 s (by omega)).trans hn
    have hskip : frN M L s = false → WR (CalR (d + 2)) t_X9_minor 9 (some .boolean) Q 84 [(2, .int (nI s)), (1, .int h), (0, .ref 0)] [] (gcM M1 (frN M L) s) := by
      intro hno
      rw [← gcM_no hno]
      refine R_iinc (lv' := [(2, _), (1, _), (0, _)]) rfl rfl (by exact nI_1 _) rfl ?_
      refine R_goto (pc' := 45) rfl rfl ?_
      exact nx
    have hser : gcM M1 (frN M L) s 29 s = M 29 s := by
      show (if s < s ∧ _ then (0 : Int32) else M1 29 s) = _
      rw [if_neg (fun q => absurd q.1 (by omega)), heq 29 s (by omega)]
    refine R_iload_n rfl rfl ?_
    refine R_sipush (y := nI 1500) rfl (by decide) ?_
    refine R_icmp (pc' := 90) rfl rfl (fun hc => ?_) (fun hc => ?_)
    · exact (ge_no hs (by omega) hc).elim
    · refine R_aload_n rfl rfl ?_
      refine R_getA rfl rfl (Or.inl rfl) ?_
      refine R_iload_n rfl rfl ?_
      refine R_iald rfl rfl rfl (show _ < 1500 from by omega) ?_
      try refine R_top (y := nI _) (by assumption) ?_
      refine R_top hser ?_
      refine R_if (pc' := 84) rfl rfl (fun hc => ?_) (fun hc => ?_)
      · exact hskip (by unfold frN; rw [decide_eq_false (Int32.not_lt.mpr hc)]; rfl)
      · have hlive : 0 < M 29 s := Int32.not_le.mp hc
        refine R_aload_n rfl rfl ?_
        refine R_getA rfl rfl (Or.inr rfl) ?_
        refine R_iload_n rfl rfl ?_
        refine R_bald rfl rfl rfl (show _ < 1500 from by omega) ?_
        try refine R_top (y := nI _) (by assumption) ?_
        refine R_top (show gcM M1 (frN M L) s 30 s = M 30 s from heq 30 s (by omega)) ?_
        refine R_if (pc' := 84) rfl rfl (fun hc => ?_) (fun hc => ?_)
        · exact hskip (by unfold frN; rw [decide_eq_false (show ¬ M 30 s = 0 from hc)]; simp)
        · have hy : M 30 s = 0 := Classical.byContradiction (fun q => hc q)
          refine R_aload_n rfl rfl ?_
          refine R_getA rfl rfl (Or.inr rfl) ?_
          refine R_iload_n rfl rfl ?_
          refine R_bald rfl rfl rfl (show _ < 1500 from by omega) ?_
          try refine R_top (y := nI _) (by assumption) ?_
          refine R_top (show gcM M1 (frN M L) s 37 s = if s ∈ L then 1 else 0 from hmk.2.2.2.2.2 s hs) ?_
          refine R_if (pc' := 84) rfl rfl (fun hc => ?_) (fun hc => ?_)
          · have hin : s ∈ L := by
              apply Classical.byContradiction
              intro hn
              rw [if_neg hn] at hc
              exact hc rfl
            exact hskip (by unfold frN; simp [hin])
          · have hnin : s ∉ L := by
              intro hin
              rw [if_pos hin] at hc
              exact hc (show ¬ (1 : Int32) = 0 by decide)
            have hF : frN M L s = true := by unfold frN; simp [hlive, hy, hnin]
            refine R_aload_n rfl rfl ?_
            refine R_iload_n rfl rfl ?_
            refine R_virt rfl rfl rfl rfl rfl rfl rfl (Nat.le_of_ble_eq_true rfl) (fun _ q => by cases q) (r_free hs (show gcM M1 (frN M L) s 32 s = nI n from hn1)) ?_
            rw [gcM_yes hF hn1 hn4]
            refine R_iinc (lv' := [(2, _), (1, _), (0, _)]) rfl rfl (by exact nI_1 _) rfl ?_
            refine R_goto (pc' := 45) rfl rfl ?_
            exact nx
theorem eqm.tr {M M1 M2 : Mem} (h : eqm M M1) (h1 : eqm M1 M2) : eqm M M2 := fun k j hk => (h1 k j hk).trans (h k j hk)
theorem eqm.rf (M : Mem) : eqm M M := fun _ _ _ => rfl
theorem eqm.sy {M M1 : Mem} (h : eqm M M1) : eqm M1 M := fun k j hk => (h k j hk).symm
theorem rchR_eqm {M M1 : Mem} {p f : Nat} {lm : Nat → Nat} {b : Prop} (h : eqm M M1) (i : Nat) : rchR M1 p f lm b i ↔ rchR M p f lm b i := by
  have e : ∀ k j, (k < 37 ∨ 39 < k) → M1 k j = M k j := h
  have hN : ∀ n i, rchN M1 p f lm b n i ↔ rchN M p f lm b n i := by
    intro n
    induction n with
    | zero =>
      intro i
      unfold rchN rootR
      simp only [e 12 _ (by omega), e 13 _ (by omega), e 17 _ (by omega), e 18 _ (by omega), e 20 _ (by omega), e 21 _ (by omega), e 23 _ (by omega), e 24 _ (by omega), e 25 _ (by omega), e 29 _ (by omega), e 30 _ (by omega)]
    | succ n ih =>
      intro i
      unfold rchN edgeR
      simp only [ih, e 31 _ (by omega), e 32 _ (by omega), e 35 _ (by omega), e 36 _ (by omega)]
  unfold rchR
  simp only [hN]
theorem hdY_eqm {M M1 : Mem} (h : eqm M M1) (L : List Nat) : hdY M1 L = hdY M L := by
  have e : ∀ k j, (k < 37 ∨ 39 < k) → M1 k j = M k j := h
  funext i
  unfold hdY szM
  simp only [e 29 _ (by omega), e 30 _ (by omega), e 32 _ (by omega)]
theorem minM_eqm {M M1 : Mem} (h : eqm M M1) (L : List Nat) (x : Int32) : eqm (minM M L x) (minM M1 L x) := by
  have e : ∀ k j, (k < 37 ∨ 39 < k) → M1 k j = M k j := h
  have hf : frN M1 L = frN M L := by
    funext i
    unfold frN
    rw [e 29 i (by omega), e 30 i (by omega)]
  have hg : eqm (gcM M (frN M L) 1500) (gcM M1 (frN M1 L) 1500) := by
    rw [hf]
    exact gcM_eqm h 1500
  intro k j hk
  unfold minM
  rw [hg 42 0 (by omega), hg 41 0 (by omega), e 44 0 (by omega)]
  have eo : ∀ k j, (k < 37 ∨ 39 < k) → oldM (gcM M1 (frN M1 L) 1500) 1500 k j = oldM (gcM M (frN M L) 1500) 1500 k j := fun k j hk => by
    unfold oldM
    by_cases h30 : k = 30
    · subst h30
      simp only [if_true]
      rw [hg 29 j (by omega), hg 30 j (by omega)]
    · rw [if_neg h30, if_neg h30]
      exact hg k j hk
  unfold up2 upd
  by_cases h44 : k = 44
  · subst h44
    simp only [if_true]
    by_cases hj : j = 0
    · simp [hj]
    · simp [hj]
      exact eo 44 j (by omega)
  · by_cases h46 : k = 46
    · subst h46
      simp only [if_true]
      by_cases hj : j = 0
      · simp [hj]
      · simp [hj]
        exact eo 46 j (by omega)
    · by_cases h41 : k = 41
      · subst h41
        simp only [if_true]
        by_cases hj : j = 0
        · simp [hj]
        · simp [hj]
          exact eo 41 j (by omega)
      · by_cases h42 : k = 42
        · subst h42
          simp only [if_true]
          by_cases hj : j = 0
          · simp [hj]
          · simp [hj]
            exact eo 42 j (by omega)
        · simp only [h44, h46, h41, h42, if_false]
          exact eo k j hk
/-- behind a MAJOR that has found L -/
def majM (M : Mem) (L : List Nat) : Mem := up2 (gcM M (frJ M L) 1500) 45 0 (M 45 0 + 1)
theorem wfR_maj {M : Mem} {p f : Nat} {lm : Nat → Nat} (L : List Nat) (hw : wfR M p f lm) : wfR (majM M L) p f lm := hw
/-- L is what can be come to -/
def isR (M : Mem) (p f : Nat) (lm : Nat → Nat) (b : Int32) (L : List Nat) : Prop := ∀ i, i < 1500 → (i ∈ L ↔ rchR M p f lm (b = 1) i)
def hel (M : Mem) (L : List Nat) : Int32 := nI (sumN (hdY M L) 1500)
/-- what a MINOR comes to -/
def minR (M : Mem) (p f : Nat) (lm : Nat → Nat) (v : Option Value) (M2 : Mem) : Prop :=
  (∃ L, isR M p f lm 1 L ∧ ¬ M 1 0 - M 42 0 < hel M L ∧ v = some (.int 1) ∧ eqm (minM M L (hel M L)) M2) ∨
  (∃ L L0 L2, isR M p f lm 1 L ∧ M 1 0 - M 42 0 < hel M L ∧ isR M p f lm 0 L0 ∧ isR (majM M L0) p f lm 1 L2 ∧
    ((¬ (majM M L0) 1 0 - (majM M L0) 42 0 < hel (majM M L0) L2 ∧ v = some (.int 1) ∧ eqm (minM (majM M L0) L2 (hel (majM M L0) L2)) M2) ∨
     ((majM M L0) 1 0 - (majM M L0) 42 0 < hel (majM M L0) L2 ∧ v = some (.int 0) ∧ eqm (majM M L0) M2)))
theorem r_minor {d : Nat} {M : Mem} {p f : Nat} {lm : Nat → Nat} (hw : wfR M p f lm) : CQ (d + 4) j_X9_minor [.ref 0] M (minR M p f lm) := by
  refine CQ_of (md := md_X9_minor) (d := d + 3) rfl (Nat.le_of_ble_eq_true rfl) ?_
  show WR (CalR (d + 3)) t_X9_minor 9 (some .boolean) _ 0 [(0, .ref 0)] [] _
  refine R_aload_n rfl rfl ?_
  refine R_vq rfl rfl rfl rfl rfl rfl rfl (Nat.le_of_ble_eq_true rfl) (r_heldCells hw) ?_
  rintro v M1 ⟨L, hmk, hL, rfl⟩
  have heq : eqm M M1 := hmk.1
  refine R_istore_n (lv' := [(1, _), (0, _)]) rfl rfl ?_
  refine R_aload_n rfl rfl ?_
  refine R_getI rfl rfl (Or.inl rfl) ?_
  refine R_aload_n rfl rfl ?_
  refine R_getI rfl rfl (Or.inl rfl) ?_
  refine R_isub rfl ?_
  refine R_iload_n rfl rfl ?_
  refine R_icmp (pc' := 43) rfl rfl (fun hc => ?_) (fun hc => ?_)
  · have hno : ¬ M 1 0 - M 42 0 < hel M L := by
      have h1 : nI (sumN (hdY M L) 1500) ≤ M1 1 0 - M1 42 0 := hc
      rw [heq 1 0 (by omega), heq 42 0 (by omega)] at h1
      exact Int32.not_lt.mpr h1
    exact r_minorE (x2 := .null) hw hmk _ (fun M2 h2 => Or.inl ⟨L, hL, hno, rfl, h2⟩)
  · have hyes : M 1 0 - M 42 0 < hel M L := by
      have h1 : ¬ nI (sumN (hdY M L) 1500) ≤ M1 1 0 - M1 42 0 := hc
      rw [heq 1 0 (by omega), heq 42 0 (by omega)] at h1
      exact Int32.not_le.mp h1
    refine R_aload_n rfl rfl ?_
    refine R_vq rfl rfl rfl rfl rfl rfl rfl (Nat.le_of_ble_eq_true rfl) (r_major (wfR_eqm heq hw)) ?_
    rintro v M2 ⟨L0, hL0, rfl, he2⟩
    have hL0' : isR M p f lm 0 L0 := fun i hi => (hL0 i hi).trans (rchR_eqm heq i)
    have hmj : eqm (majM M L0) M2 := by
      refine eqm.tr ?_ he2
      intro k j hk
      have hf : frJ M1 L0 = frJ M L0 := by
        funext i
        unfold frJ
        rw [heq 29 i (by omega)]
      unfold majM up2
      rw [hf, heq 45 0 (by omega)]
      by_cases h45 : k = 45
      · subst h45
        simp only [if_true]
        unfold upd
        by_cases hj : j = 0
        · simp [hj]
        · simp [hj]
          exact gcM_eqm heq 1500 45 j (by omega)
      · rw [if_neg h45, if_neg h45]
        exact gcM_eqm heq 1500 k j hk
    have hw2 : wfR M2 p f lm := wfR_eqm hmj (wfR_maj L0 hw)
    refine R_istore_n (lv' := [(2, _), (1, _), (0, _)]) rfl rfl ?_
    refine R_aload_n rfl rfl ?_
    refine R_vq rfl rfl rfl rfl rfl rfl rfl (Nat.le_of_ble_eq_true rfl) (r_heldCells hw2) ?_
    rintro v M3 ⟨L2, hmk2, hL2, rfl⟩
    have hL2' : isR (majM M L0) p f lm 1 L2 := fun i hi => (hL2 i hi).trans (rchR_eqm hmj i)
    have heq3 : eqm M2 M3 := hmk2.1
    have hh : nI (sumN (hdY M2 L2) 1500) = hel (majM M L0) L2 := by
      unfold hel
      rw [hdY_eqm hmj]
    refine R_istore_n (lv' := [(1, _), (2, _), (0, _)]) rfl rfl ?_
    refine R_aload_n rfl rfl ?_
    refine R_getI rfl rfl (Or.inl rfl) ?_
    refine R_aload_n rfl rfl ?_
    refine R_getI rfl rfl (Or.inl rfl) ?_
    refine R_isub rfl ?_
    refine R_iload_n rfl rfl ?_
    have e1 : M3 1 0 = (majM M L0) 1 0 := (heq3 1 0 (by omega)).trans (hmj 1 0 (by omega))
    have e2 : M3 42 0 = (majM M L0) 42 0 := (heq3 42 0 (by omega)).trans (hmj 42 0 (by omega))
    refine R_icmp (pc' := 43) rfl rfl (fun hc => ?_) (fun hc => ?_)
    · have hno : ¬ (majM M L0) 1 0 - (majM M L0) 42 0 < hel (majM M L0) L2 := by
        have h1 : nI (sumN (hdY M2 L2) 1500) ≤ M3 1 0 - M3 42 0 := hc
        rw [e1, e2, hh] at h1
        exact Int32.not_lt.mpr h1
      rw [hh]
      refine R_sub [0, 2] rfl rfl rfl ?_
      refine r_minorE (x2 := .null) hw2 hmk2 _ (fun M4 h4 => Or.inr ⟨L, L0, L2, hL, hyes, hL0', hL2', Or.inl ⟨hno, rfl, (minM_eqm hmj L2 _).tr h4⟩⟩)
    · have hyes2 : (majM M L0) 1 0 - (majM M L0) 42 0 < hel (majM M L0) L2 := by
        have h1 : ¬ nI (sumN (hdY M2 L2) 1500) ≤ M3 1 0 - M3 42 0 := hc
        rw [e1, e2, hh] at h1
        exact Int32.not_le.mp h1
      refine R_iconst (y := nI 0) rfl (by decide) ?_
      exact R_iret rfl rfl (Or.inl rfl) (Or.inr ⟨L, L0, L2, hL, hyes, hL0', hL2', Or.inr ⟨hyes2, rfl, hmj.tr heq3⟩⟩)
