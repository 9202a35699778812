/-! ===== the reference: widen, ownSlot, find, isCalm, remembers, meet ===== -/
def wdR (M : Mem) (p f : Nat) (lm : Nat → Nat) (i : Nat) (v : Option Value) (M2 : Mem) : Prop :=
  ((M 30 i = 0 ∧ M 41 0 = M 0 0) ∧ minR M p f lm (some (.int 0)) M2 ∧ v = some (.int 0)) ∨
  ∃ M1, ((¬ (M 30 i = 0 ∧ M 41 0 = M 0 0) ∧ M1 = M) ∨ ((M 30 i = 0 ∧ M 41 0 = M 0 0) ∧ minR M p f lm (some (.int 1)) M1)) ∧
    ((M1 30 i = 0 ∧ M2 = up2 M1 41 0 (M1 41 0 + 1) ∧ v = some (.int 1)) ∨
     (¬ M1 30 i = 0 ∧ ((ghR M1 p f lm 1 (some (.int 0)) M2 ∧ v = some (.int 0)) ∨ ∃ M3, ghR M1 p f lm 1 (some (.int 1)) M3 ∧ M2 = up2 M3 42 0 (M3 42 0 + 1) ∧ v = some (.int 1))))
theorem minR_v {M M1 : Mem} {p f : Nat} {lm : Nat → Nat} {v : Option Value} (hg : minR M p f lm v M1) : v = some (.int 1) ∨ v = some (.int 0) := by
  rcases hg with ⟨L, -, -, h, -⟩ | ⟨L, L0, L2, -, -, -, -, ⟨-, h, -⟩ | ⟨-, h, -⟩⟩
  · exact Or.inl h
  · exact Or.inl h
  · exact Or.inr h
theorem ghR_v {M M1 : Mem} {p f : Nat} {lm : Nat → Nat} {x : Int32} {v : Option Value} (hg : ghR M p f lm x v M1) : v = some (.int 1) ∨ v = some (.int 0) := by
  rcases hg with ⟨-, h, -⟩ | ⟨-, L0, -, -, ⟨-, h⟩ | ⟨-, h⟩⟩
  · exact Or.inl h
  · exact Or.inl h
  · exact Or.inr h
theorem r_widen {d : Nat} {M : Mem} {p f : Nat} {lm : Nat → Nat} {i : Nat} (hw : wfR M p f lm) (hi : i < 1500) : CQ (d + 5) j_X9_widen [.ref 0, .int (nI i)] M (wdR M p f lm i) := by
  refine CQ_of (md := md_X9_widen) (d := d + 4) rfl (Nat.le_of_ble_eq_true rfl) ?_
  show WR (CalR (d + 4)) t_X9_widen 9 (some .boolean) _ 0 [(0, .ref 0), (1, .int (nI i))] [] _
  have rest : ∀ M1 : Mem, wfR M1 p f lm → ((¬ (M 30 i = 0 ∧ M 41 0 = M 0 0) ∧ M1 = M) ∨ ((M 30 i = 0 ∧ M 41 0 = M 0 0) ∧ minR M p f lm (some (.int 1)) M1)) → WR (CalR (d + 4)) t_X9_widen 9 (some .boolean) (wdR M p f lm i) 29 [(0, .ref 0), (1, .int (nI i))] [] M1 := by
    intro M1 hw1 hcase
    refine R_aload_n rfl rfl ?_
    refine R_getA rfl rfl (Or.inr rfl) ?_
    refine R_iload_n rfl rfl ?_
    refine R_bald rfl rfl rfl (show _ < 1500 from hi) ?_
    refine R_if (pc' := 50) rfl rfl (fun hc => ?_) (fun hc => ?_)
    · have ho : ¬ M1 30 i = 0 := hc
      refine R_aload_n rfl rfl ?_
      refine R_iconst (y := nI 1) rfl (by decide) ?_
      refine R_vq rfl rfl rfl rfl rfl rfl rfl (Nat.le_of_ble_eq_true rfl) (r_greatHas hw1) ?_
      intro v M3 hg
      rcases ghR_v hg with rfl | rfl
      · refine R_if (pc' := 60) rfl rfl (fun hc => ?_) (fun hc => absurd (show ¬ (1 : Int32) = 0 by decide) hc)
        refine R_aload_n rfl rfl ?_
        refine R_dup rfl ?_
        refine R_getI rfl rfl (Or.inl rfl) ?_
        refine R_iconst (y := nI 1) rfl (by decide) ?_
        refine R_iadd rfl ?_
        refine R_put rfl rfl rfl ?_
        refine R_iconst (y := nI 1) rfl (by decide) ?_
        exact R_iret rfl rfl (Or.inr rfl) (Or.inr ⟨M1, hcase, Or.inr ⟨ho, Or.inr ⟨M3, hg, rfl, rfl⟩⟩⟩)
      · refine R_if (pc' := 60) rfl rfl (fun hc => absurd rfl hc) (fun hc => ?_)
        refine R_iconst (y := nI 0) rfl (by decide) ?_
        exact R_iret rfl rfl (Or.inl rfl) (Or.inr ⟨M1, hcase, Or.inr ⟨ho, Or.inl ⟨hg, rfl⟩⟩⟩)
    · have ho : M1 30 i = 0 := Classical.byContradiction (fun q => hc q)
      refine R_aload_n rfl rfl ?_
      refine R_dup rfl ?_
      refine R_getI rfl rfl (Or.inl rfl) ?_
      refine R_iconst (y := nI 1) rfl (by decide) ?_
      refine R_iadd rfl ?_
      refine R_put rfl rfl rfl ?_
      refine R_iconst (y := nI 1) rfl (by decide) ?_
      exact R_iret rfl rfl (Or.inr rfl) (Or.inr ⟨M1, hcase, Or.inl ⟨ho, rfl, rfl⟩⟩)
  refine R_aload_n rfl rfl ?_
  refine R_getA rfl rfl (Or.inr rfl) ?_
  refine R_iload_n rfl rfl ?_
  refine R_bald rfl rfl rfl (show _ < 1500 from hi) ?_
  refine R_if (pc' := 29) rfl rfl (fun hc => ?_) (fun hc => ?_)
  · exact rest M hw (Or.inl ⟨fun q => hc q.1, rfl⟩)
  · have ho : M 30 i = 0 := Classical.byContradiction (fun q => hc q)
    refine R_aload_n rfl rfl ?_
    refine R_getI rfl rfl (Or.inl rfl) ?_
    refine R_aload_n rfl rfl ?_
    refine R_getI rfl rfl (Or.inl rfl) ?_
    refine R_icmp (pc' := 29) rfl rfl (fun hc => ?_) (fun hc => ?_)
    · exact rest M hw (Or.inl ⟨fun q => hc q.2, rfl⟩)
    · have hfull : M 41 0 = M 0 0 := Classical.byContradiction (fun q => hc q)
      refine R_aload_n rfl rfl ?_
      refine R_vq rfl rfl rfl rfl rfl rfl rfl (Nat.le_of_ble_eq_true rfl) (r_minor hw) ?_
      intro v M1 hg
      rcases minR_v hg with rfl | rfl
      · refine R_if (pc' := 29) rfl rfl (fun hc => ?_) (fun hc => absurd (show ¬ (1 : Int32) = 0 by decide) hc)
        exact rest M1 (minR_wf hw hg).1 (Or.inr ⟨⟨ho, hfull⟩, hg⟩)
      · refine R_if (pc' := 29) rfl rfl (fun hc => absurd rfl hc) (fun hc => ?_)
        refine R_iconst (y := nI 0) rfl (by decide) ?_
        exact R_iret rfl rfl (Or.inl rfl) (Or.inl ⟨⟨ho, hfull⟩, hg, rfl⟩)
/-- the least s below n of which p holds -/
def lst (p : Nat → Bool) : Nat → Option Nat
  | 0 => none
  | n + 1 => match lst p n with
    | some s => some s
    | none => if p n = true then some n else none
theorem lst_none {p : Nat → Bool} : ∀ {n : Nat}, lst p n = none ↔ ∀ s, s < n → p s = false
  | 0 => by simp [lst]
  | n + 1 => by
    unfold lst
    constructor
    · intro h s hs
      cases h1 : lst p n with
      | some q => rw [h1] at h; cases h
      | none =>
        rw [h1] at h
        by_cases hsn : s = n
        · subst hsn
          cases hp : p s with
          | true => simp [hp] at h
          | false => rfl
        · exact lst_none.mp h1 s (by omega)
    · intro h
      rw [lst_none.mpr (fun s hs => h s (by omega))]
      simp [h n (by omega)]
theorem lst_some {p : Nat → Bool} : ∀ {n s : Nat}, lst p n = some s ↔ s < n ∧ p s = true ∧ ∀ j, j < s → p j = false
  | 0, s => by simp [lst]
  | n + 1, s => by
    unfold lst
    cases h1 : lst p n with
    | some q =>
      obtain ⟨a1, a2, a3⟩ := lst_some.mp h1
      constructor
      · intro h
        cases h
        exact ⟨by omega, a2, a3⟩
      · rintro ⟨b1, b2, b3⟩
        have : s = q := by
          rcases Nat.lt_trichotomy s q with h | h | h
          · rw [a3 s h] at b2; cases b2
          · exact h
          · rw [b3 q h] at a2; cases a2
        rw [this]
    | none =>
      have hn := lst_none.mp h1
      constructor
      · intro h
        by_cases hp : p n = true
        · simp only [hp, if_true] at h
          cases h
          exact ⟨by omega, hp, fun j hj => hn j hj⟩
        · simp [hp] at h
      · rintro ⟨b1, b2, b3⟩
        have : s = n := by
          apply Classical.byContradiction
          intro hne
          rw [hn s (by omega)] at b2
          cases b2
        subst this
        simp [b2]
/-- the own slot of that name -/
def osl (M : Mem) (i : Nat) (x : Int32) : Option Nat := lst (fun s => decide (M 34 (40 * i + s) = x)) (M 32 i).toNatClampNeg
def oslV (M : Mem) (i : Nat) (x : Int32) : Int32 := match osl M i x with
  | some s => nI (40 * i + s)
  | none => -1
theorem r_ownSlot {d : Nat} {M : Mem} {i n : Nat} {x : Int32} (hi : i < 1500) (hn : M 32 i = nI n) (hn4 : n ≤ 40) : CalR (d + 1) j_X9_ownSlot [.ref 0, .int (nI i), .int x] M (some (.int (oslV M i x))) M := by
  have hN : (M 32 i).toNatClampNeg = n := by rw [hn, nI_clamp (by omega)]
  cases ho : osl M i x with
  | none =>
    have h1 : oslV M i x = -1 := by unfold oslV; rw [ho]
    rw [h1]
    unfold osl at ho
    rw [hN] at ho
    exact r_ownSlot_none hi hn hn4 (fun s hs => by simpa using lst_none.mp ho s hs)
  | some s0 =>
    have h1 : oslV M i x = nI (40 * i + s0) := by unfold oslV; rw [ho]
    rw [h1]
    unfold osl at ho
    rw [hN] at ho
    obtain ⟨a1, a2, a3⟩ := lst_some.mp ho
    have a2 : M 34 (40 * i + s0) = x := by simpa using a2
    refine CalR_of (md := md_X9_ownSlot) rfl (Nat.le_of_ble_eq_true rfl) ?_
    show WR (CalR d) t_X9_ownSlot 9 (some .int) _ 0 [(0, .ref 0), (1, .int (nI i)), (2, .int x)] [] _
    refine R_iconst (y := nI 0) rfl (by decide) ?_
    refine R_istore_n (lv' := [(3, _), (0, _), (1, _), (2, _)]) rfl rfl ?_
    refine dn_up (P := fun s => WR (CalR d) t_X9_ownSlot 9 (some .int) (fun v' M' => v' = some (.int (nI (40 * i + s0))) ∧ M' = M) 2 [(3, .int (nI s)), (0, .ref 0), (1, .int (nI i)), (2, .int x)] [] M) (N := s0) ?_ ?_ 0 (Nat.zero_le _)
    · refine R_iload_n rfl rfl ?_
      refine R_aload_n rfl rfl ?_
      refine R_getA rfl rfl (Or.inl rfl) ?_
      refine R_iload_n rfl rfl ?_
      refine R_iald rfl rfl rfl (show _ < 1500 from by omega) ?_
      try refine R_top (y := nI _) (by assumption) ?_
      refine R_icmp (pc' := 40) rfl rfl (fun hc => ?_) (fun hc => ?_)
      · exact (ge_no a1 (by omega) hc).elim
      · refine R_aload_n rfl rfl ?_
        refine R_getA rfl rfl (Or.inl rfl) ?_
        refine R_bipush (y := nI 40) rfl (by decide) ?_
        refine R_iload_n rfl rfl ?_
        first | refine R_imulN rfl ?_ | refine R_imul rfl ?_
        refine R_iload_n rfl rfl ?_
        first | refine R_iaddN rfl ?_ | refine R_iadd rfl ?_
        refine R_iald rfl rfl rfl (show _ < 60000 from by omega) ?_
        try refine R_top (y := nI _) (by assumption) ?_
        refine R_iload_n rfl rfl ?_
        refine R_icmp (pc' := 34) rfl rfl (fun hc => ?_) (fun hc => ?_)
        · exact absurd a2 hc
        · refine R_bipush (y := nI 40) rfl (by decide) ?_
          refine R_iload_n rfl rfl ?_
          first | refine R_imulN rfl ?_ | refine R_imul rfl ?_
          refine R_iload_n rfl rfl ?_
          first | refine R_iaddN rfl ?_ | refine R_iadd rfl ?_
          exact R_iret rfl rfl (by first | trivial | exact Or.inl rfl | exact Or.inr rfl | assumption) ⟨rfl, rfl⟩
    · intro s hs nx
      refine R_iload_n rfl rfl ?_
      refine R_aload_n rfl rfl ?_
      refine R_getA rfl rfl (Or.inl rfl) ?_
      refine R_iload_n rfl rfl ?_
      refine R_iald rfl rfl rfl (show _ < 1500 from by omega) ?_
      try refine R_top (y := nI _) (by assumption) ?_
      refine R_icmp (pc' := 40) rfl rfl (fun hc => ?_) (fun hc => ?_)
      · exact (ge_no (show s < n by omega) (by omega) hc).elim
      · refine R_aload_n rfl rfl ?_
        refine R_getA rfl rfl (Or.inl rfl) ?_
        refine R_bipush (y := nI 40) rfl (by decide) ?_
        refine R_iload_n rfl rfl ?_
        first | refine R_imulN rfl ?_ | refine R_imul rfl ?_
        refine R_iload_n rfl rfl ?_
        first | refine R_iaddN rfl ?_ | refine R_iadd rfl ?_
        refine R_iald rfl rfl rfl (show _ < 60000 from by omega) ?_
        try refine R_top (y := nI _) (by assumption) ?_
        refine R_iload_n rfl rfl ?_
        refine R_icmp (pc' := 34) rfl rfl (fun hc => ?_) (fun hc => ?_)
        · refine R_iinc (lv' := [(3, _), (0, _), (1, _), (2, _)]) rfl rfl (by exact nI_1 _) rfl ?_
          refine R_goto (pc' := 2) rfl rfl ?_
          exact nx
        · have := a3 s hs
          simp only [decide_eq_false_iff_not] at this
          exact absurd this hc
/-- parents go down: none is met twice -/
def dwn (M : Mem) (lv : Nat → Prop) (rk : Nat → Nat) : Prop := ∀ i, lv i → i < 1500 ∧ (∃ n, n ≤ 40 ∧ M 32 i = nI n) ∧ (M 31 i = -1 ∨ ∃ j, lv j ∧ M 31 i = nI j ∧ rk j < rk i)
/-- where a name is found along a chain: the object, the slot -/
def fnd (M : Mem) (x : Int32) : Nat → Int32 → Option (Nat × Nat)
  | 0, _ => none
  | n + 1, c => if c < 0 then none else match osl M c.toNatClampNeg x with
    | some s => some (c.toNatClampNeg, s)
    | none => fnd M x n (M 31 c.toNatClampNeg)
def fndV : Option (Nat × Nat) → Int32
  | some q => nI (40 * q.1 + q.2)
  | none => -1
theorem r_findL {d : Nat} {M : Mem} {lv : Nat → Prop} {rk : Nat → Nat} {x : Int32} {k y : Value} (hd : dwn M lv rk) : ∀ (N : Nat) (c : Int32) (x5 : Value), (c = -1 ∨ ∃ i, lv i ∧ c = nI i ∧ rk i < N) → WR (CalR (d + 1)) t_X9_find 9 (some .int) (fun v' M' => v' = some (.int (fndV (fnd M x (N + 1) c))) ∧ M' = M) 8 [(4, .int c), (0, .ref 0), (1, k), (2, y), (3, .int x)] [] M := by
  intro N
  induction N with
  | zero =>
    intro c x5 hcs
    rcases hcs with rfl | ⟨i, -, -, h⟩
    · refine R_iload rfl rfl ?_
      refine R_if (pc' := 42) rfl rfl (fun hc => ?_) (fun hc => ?_)
      · refine R_iconst (y := (-1)) rfl (by decide) ?_
        exact R_iret rfl rfl (by first | trivial | exact Or.inl rfl | exact Or.inr rfl | assumption) ⟨rfl, rfl⟩
      · exact absurd (show (-1 : Int32) < 0 by decide) hc
    · omega
  | succ N ih =>
    intro c x5 hcs
    rcases hcs with rfl | ⟨i, hi, rfl, hrk⟩
    · refine R_iload rfl rfl ?_
      refine R_if (pc' := 42) rfl rfl (fun hc => ?_) (fun hc => ?_)
      · refine R_iconst (y := (-1)) rfl (by decide) ?_
        exact R_iret rfl rfl (by first | trivial | exact Or.inl rfl | exact Or.inr rfl | assumption) ⟨rfl, rfl⟩
      · exact absurd (show (-1 : Int32) < 0 by decide) hc
    · obtain ⟨hi15, ⟨n, hn4, hn⟩, hpar⟩ := hd i hi
      have hcl : (nI i).toNatClampNeg = i := nI_clamp (by omega)
      have hnn : ¬ nI i < 0 := nI_pos (by omega)
      refine R_iload rfl rfl ?_
      refine R_if (pc' := 42) rfl rfl (fun hc => ?_) (fun hc => ?_)
      · exact absurd hc hnn
      · refine R_aload_n rfl rfl ?_
        refine R_iload rfl rfl ?_
        refine R_iload_n rfl rfl ?_
        refine R_virt rfl rfl rfl rfl rfl rfl rfl (Nat.le_of_ble_eq_true rfl) (fun _ q => by cases q) (r_ownSlot hi15 hn hn4) ?_
        cases ho : osl M i x with
        | some s =>
          have hs4 : s < 40 := by
            unfold osl at ho
            have := (lst_some.mp ho).1
            rw [hn, nI_clamp (by omega)] at this
            omega
          have hv : oslV M i x = nI (40 * i + s) := by unfold oslV; rw [ho]
          have hf : fnd M x (N + 1 + 1) (nI i) = some (i, s) := by
            rw [fnd, if_neg hnn, hcl, ho]
          rw [hf]
          refine R_top hv ?_
          refine R_istore (lv' := [(5, _), (4, _), (0, _), (1, _), (2, _), (3, _)]) rfl rfl ?_
          refine R_iload rfl rfl ?_
          refine R_if (pc' := 30) rfl rfl (fun hc => ?_) (fun hc => ?_)
          · exact absurd hc (nI_pos (by omega))
          · refine R_iload rfl rfl ?_
            exact R_iret rfl rfl trivial ⟨rfl, rfl⟩
        | none =>
          have hv : oslV M i x = -1 := by unfold oslV; rw [ho]
          have hf : fnd M x (N + 1 + 1) (nI i) = fnd M x (N + 1) (M 31 i) := by
            rw [fnd, if_neg hnn, hcl, ho]
          rw [hf]
          refine R_top hv ?_
          refine R_istore (lv' := [(5, _), (4, _), (0, _), (1, _), (2, _), (3, _)]) rfl rfl ?_
          refine R_iload rfl rfl ?_
          refine R_if (pc' := 30) rfl rfl (fun hc => ?_) (fun hc => ?_)
          · refine R_aload_n rfl rfl ?_
            refine R_getA rfl rfl (Or.inl rfl) ?_
            refine R_iload rfl rfl ?_
            refine R_iald rfl rfl rfl (show _ < 1500 from hi15) ?_
            refine R_istore (lv' := [(4, _), (5, _), (0, _), (1, _), (2, _), (3, _)]) rfl rfl ?_
            refine R_goto (pc' := 8) rfl rfl ?_
            refine R_sub [0, 2, 3, 4, 5] rfl rfl rfl ?_
            refine ih (M 31 i) .null ?_
            rcases hpar with h | ⟨j, h1, h2, h3⟩
            · exact Or.inl h
            · exact Or.inr ⟨j, h1, h2, by omega⟩
          · exact absurd (show (-1 : Int32) < 0 by decide) hc
/-- the first of a value's chain -/
def chn (M : Mem) (k : Nat) (y : Int32) : Int32 := if k = 2 then y else M 25 k
theorem r_find {d : Nat} {M : Mem} {lv : Nat → Prop} {rk : Nat → Nat} {x y : Int32} {k N : Nat} (hd : dwn M lv rk) (hk : k < 4) (hc : chn M k y = -1 ∨ ∃ i, lv i ∧ chn M k y = nI i ∧ rk i < N) : CalR (d + 2) j_X9_find [.ref 0, .int (nI k), .int y, .int x] M (some (.int (fndV (fnd M x (N + 1) (chn M k y))))) M := by
  refine CalR_of (md := md_X9_find) (d := d + 1) rfl (Nat.le_of_ble_eq_true rfl) ?_
  show WR (CalR (d + 1)) t_X9_find 9 (some .int) _ 0 [(0, .ref 0), (1, .int (nI k)), (2, .int y), (3, .int x)] [] _
  refine R_aload_n rfl rfl ?_
  refine R_iload_n rfl rfl ?_
  refine R_iload_n rfl rfl ?_
  have hch : CalR (d + 1) j_X9_chainOf [.ref 0, .int (nI k), .int y] M (some (.int (chn M k y))) M := by
    by_cases h2 : k = 2
    · subst h2
      exact r_chainOf2
    · unfold chn
      rw [if_neg h2]
      exact r_chainOf hk h2
  refine R_virt rfl rfl rfl rfl rfl rfl rfl (Nat.le_of_ble_eq_true rfl) (fun _ q => by cases q) (hch) ?_
  refine R_istore (lv' := [(4, _), (0, _), (1, _), (2, _), (3, _)]) rfl rfl ?_
  exact r_findL hd N _ .null hc
