/-! ===== the reference: greatHas, make, widen ===== -/
def ghR (M : Mem) (p f : Nat) (lm : Nat → Nat) (x : Int32) (v : Option Value) (M2 : Mem) : Prop :=
  (¬ M 1 0 - M 42 0 < x ∧ v = some (.int 1) ∧ eqm M M2) ∨ (M 1 0 - M 42 0 < x ∧ ∃ L0, isR M p f lm 0 L0 ∧ eqm (majM M L0) M2 ∧ ((¬ (majM M L0) 1 0 - (majM M L0) 42 0 < x ∧ v = some (.int 1)) ∨ ((majM M L0) 1 0 - (majM M L0) 42 0 < x ∧ v = some (.int 0))))
theorem r_greatHas {d : Nat} {M : Mem} {p f : Nat} {lm : Nat → Nat} {x : Int32} (hw : wfR M p f lm) : CQ (d + 4) j_X9_greatHas [.ref 0, .int x] M (ghR M p f lm x) := by
  refine CQ_of (md := md_X9_greatHas) (d := d + 3) rfl (Nat.le_of_ble_eq_true rfl) ?_
  show WR (CalR (d + 3)) t_X9_greatHas 9 (some .boolean) _ 0 [(0, .ref 0), (1, .int x)] [] _
  refine R_aload_n rfl rfl ?_
  refine R_getI rfl rfl (Or.inl rfl) ?_
  refine R_aload_n rfl rfl ?_
  refine R_getI rfl rfl (Or.inl rfl) ?_
  refine R_isub rfl ?_
  refine R_iload_n rfl rfl ?_
  refine R_icmp (pc' := 15) rfl rfl (fun hc => ?_) (fun hc => ?_)
  · refine R_aload_n rfl rfl ?_
    refine R_vq rfl rfl rfl rfl rfl rfl rfl (Nat.le_of_ble_eq_true rfl) (r_major hw) ?_
    rintro v M2 ⟨L0, hL0, rfl, he2⟩
    refine R_istore_n (lv' := [(2, _), (0, _), (1, _)]) rfl rfl ?_
    refine R_aload_n rfl rfl ?_
    refine R_getI rfl rfl (Or.inl rfl) ?_
    refine R_aload_n rfl rfl ?_
    refine R_getI rfl rfl (Or.inl rfl) ?_
    refine R_isub rfl ?_
    refine R_iload_n rfl rfl ?_
    have hmj : eqm (majM M L0) M2 := he2
    have h0 := hc
    refine R_icmp (pc' := 37) rfl rfl (fun hc => ?_) (fun hc => ?_)
    · refine R_iconst (y := nI 0) rfl (by decide) ?_
      have h2 : M2 1 0 - M2 42 0 < x := hc
      rw [hmj 1 0 (by omega), hmj 42 0 (by omega)] at h2
      exact R_iret rfl rfl (Or.inl rfl) (Or.inr ⟨h0, L0, hL0, hmj, Or.inr ⟨h2, rfl⟩⟩)
    · refine R_iconst (y := nI 1) rfl (by decide) ?_
      refine R_goto (pc' := 38) rfl rfl ?_
      have h2 : ¬ M2 1 0 - M2 42 0 < x := hc
      rw [hmj 1 0 (by omega), hmj 42 0 (by omega)] at h2
      exact R_iret rfl rfl (Or.inr rfl) (Or.inr ⟨h0, L0, hL0, hmj, Or.inl ⟨h2, rfl⟩⟩)
  · refine R_iconst (y := nI 1) rfl (by decide) ?_
    exact R_iret rfl rfl (Or.inr rfl) (Or.inl ⟨hc, rfl, eqm.rf M⟩)
theorem wfR_min {M : Mem} {p f : Nat} {lm : Nat → Nat} (L : List Nat) (x : Int32) (hw : wfR M p f lm) : wfR (minM M L x) p f lm := hw
theorem maj29 {M : Mem} {L : List Nat} {i : Nat} (h : ¬ 0 < M 29 i) : ¬ 0 < majM M L 29 i := by
  show ¬ 0 < (if i < 1500 ∧ frJ M L i = true then (0 : Int32) else M 29 i)
  split
  · decide
  · exact h
theorem min29 {M : Mem} {L : List Nat} {x : Int32} {i : Nat} (h : ¬ 0 < M 29 i) : ¬ 0 < minM M L x 29 i := by
  show ¬ 0 < (if i < 1500 ∧ frN M L i = true then (0 : Int32) else M 29 i)
  split
  · decide
  · exact h
theorem minR_wf {M M2 : Mem} {p f : Nat} {lm : Nat → Nat} {v : Option Value} (hw : wfR M p f lm) (h : minR M p f lm v M2) : wfR M2 p f lm ∧ ∀ i, ¬ 0 < M 29 i → ¬ 0 < M2 29 i := by
  rcases h with ⟨L, -, -, -, he⟩ | ⟨L, L0, L2, -, -, -, -, ⟨-, -, he⟩ | ⟨-, -, he⟩⟩
  · exact ⟨wfR_eqm he (wfR_min L _ hw), fun i hi => by rw [he 29 i (by omega)]; exact min29 hi⟩
  · exact ⟨wfR_eqm he (wfR_min L2 _ (wfR_maj L0 hw)), fun i hi => by rw [he 29 i (by omega)]; exact min29 (maj29 hi)⟩
  · exact ⟨wfR_eqm he (wfR_maj L0 hw), fun i hi => by rw [he 29 i (by omega)]; exact maj29 hi⟩
theorem ghR_wf {M M2 : Mem} {p f : Nat} {lm : Nat → Nat} {x : Int32} {v : Option Value} (hw : wfR M p f lm) (h : ghR M p f lm x v M2) : wfR M2 p f lm ∧ ∀ i, ¬ 0 < M 29 i → ¬ 0 < M2 29 i := by
  rcases h with ⟨-, -, he⟩ | ⟨-, L0, -, he, -⟩
  · exact ⟨wfR_eqm he hw, fun i hi => by rw [he 29 i (by omega)]; exact hi⟩
  · exact ⟨wfR_eqm he (wfR_maj L0 hw), fun i hi => by rw [he 29 i (by omega)]; exact maj29 hi⟩
/-- a new object at the place i -/
def newM (M : Mem) (i : Nat) (o x : Int32) : Mem := up2 (up2 (up2 (up2 (up2 (up2 (up2 M 40 0 (M 40 0 + 1)) 29 i (M 40 0 + 1)) 30 i o) 31 i (-1)) 32 i 0) 33 i 0) (if o = 0 then 41 else 42) 0 (if o = 0 then M 41 0 + x else M 42 0 + x)
/-- the least place that is free -/
def lstF (M : Mem) (i : Nat) : Prop := i < 1500 ∧ ¬ 0 < M 29 i ∧ ∀ j, j < i → 0 < M 29 j
/-- what make comes to -/
def mkR (M : Mem) (p f : Nat) (lm : Nat → Nat) (x : Int32) (v : Option Value) (M2 : Mem) : Prop :=
  (M 0 0 - M 41 0 < x ∧ minR M p f lm (some (.int 0)) M2 ∧ v = some (.int (-1))) ∨
  ∃ M1, ((¬ M 0 0 - M 41 0 < x ∧ M1 = M) ∨ (M 0 0 - M 41 0 < x ∧ minR M p f lm (some (.int 1)) M1)) ∧
    ((¬ M1 0 0 - M1 41 0 < x ∧ ∃ i, lstF M1 i ∧ v = some (.int (nI i)) ∧ M2 = newM M1 i 0 x) ∨
     (M1 0 0 - M1 41 0 < x ∧ ((ghR M1 p f lm x (some (.int 0)) M2 ∧ v = some (.int (-1))) ∨ ∃ M3 i, ghR M1 p f lm x (some (.int 1)) M3 ∧ lstF M3 i ∧ v = some (.int (nI i)) ∧ M2 = newM M3 i 1 x)))
theorem r_makeE {d : Nat} {M : Mem} {o x : Int32} (ho : o = 0 ∨ o = 1) (hf : ∃ i, i < 1500 ∧ ¬ 0 < M 29 i) (Q : Option Value → Mem → Prop) (hQ : ∀ i, lstF M i → Q (some (.int (nI i))) (newM M i o x)) : WR (CalR d) t_X9_make 9 (some .int) Q 55 [(2, .int o), (0, .ref 0), (1, .int x)] [] M := by
  refine R_iconst (y := nI 0) rfl (by decide) ?_
  refine R_istore_n (lv' := [(3, _), (2, _), (0, _), (1, _)]) rfl rfl ?_
  obtain ⟨i0, ⟨hi0, hfr⟩, hlt⟩ := pk_least (fun i => i < 1500 ∧ ¬ 0 < M 29 i) hf
  have hall : ∀ j, j < i0 → 0 < M 29 j := fun j hj => Classical.byContradiction (fun q => hlt j hj ⟨by omega, q⟩)
  refine dn_up (P := fun s => WR (CalR d) t_X9_make 9 (some .int) Q 57 [(3, .int (nI s)), (2, .int o), (0, .ref 0), (1, .int x)] [] M) (N := i0) ?_ ?_ 0 (Nat.zero_le _)
  · refine R_aload_n rfl rfl ?_
    refine R_getA rfl rfl (Or.inl rfl) ?_
    refine R_iload_n rfl rfl ?_
    refine R_iald rfl rfl rfl (show _ < 1500 from hi0) ?_
    refine R_if (pc' := 72) rfl rfl (fun hc => ?_) (fun hc => ?_)
    · have hq := hQ i0 ⟨hi0, hfr, hall⟩
      unfold newM at hq
      refine R_aload_n rfl rfl ?_
      refine R_dup rfl ?_
      refine R_getI rfl rfl (Or.inl rfl) ?_
      refine R_iconst (y := nI 1) rfl (by decide) ?_
      refine R_iadd rfl ?_
      refine R_put rfl rfl rfl ?_
      refine R_aload_n rfl rfl ?_
      refine R_getA rfl rfl (Or.inl rfl) ?_
      refine R_iload_n rfl rfl ?_
      refine R_aload_n rfl rfl ?_
      refine R_getI rfl rfl (Or.inl rfl) ?_
      refine R_iast rfl rfl rfl (show _ < 1500 from hi0) ?_
      refine R_aload_n rfl rfl ?_
      refine R_getA rfl rfl (Or.inr rfl) ?_
      refine R_iload_n rfl rfl ?_
      refine R_iload_n rfl rfl ?_
      refine R_bast rfl rfl rfl (show _ < 1500 from by omega) (by first | exact Or.inl rfl | exact Or.inr rfl | assumption) ?_
      refine R_aload_n rfl rfl ?_
      refine R_getA rfl rfl (Or.inl rfl) ?_
      refine R_iload_n rfl rfl ?_
      refine R_iconst (y := (-1)) rfl (by decide) ?_
      refine R_iast rfl rfl rfl (show _ < 1500 from by omega) ?_
      refine R_aload_n rfl rfl ?_
      refine R_getA rfl rfl (Or.inl rfl) ?_
      refine R_iload_n rfl rfl ?_
      refine R_iconst (y := nI 0) rfl (by decide) ?_
      refine R_iast rfl rfl rfl (show _ < 1500 from by omega) ?_
      refine R_aload_n rfl rfl ?_
      refine R_getA rfl rfl (Or.inl rfl) ?_
      refine R_iload_n rfl rfl ?_
      refine R_iconst (y := nI 0) rfl (by decide) ?_
      refine R_iast rfl rfl rfl (show _ < 1500 from by omega) ?_
      refine R_iload_n rfl rfl ?_
      refine R_if (pc' := 137) rfl rfl (fun hc => ?_) (fun hc => ?_)
      · rw [if_pos (show o = 0 from hc), if_pos (show o = 0 from hc)] at hq
        refine R_aload_n rfl rfl ?_
        refine R_aload_n rfl rfl ?_
        refine R_getI rfl rfl (Or.inl rfl) ?_
        refine R_iload_n rfl rfl ?_
        refine R_iadd rfl ?_
        refine R_put rfl rfl rfl ?_
        refine R_iload_n rfl rfl ?_
        exact R_iret rfl rfl trivial hq
      · rw [if_neg (show ¬ o = 0 from hc), if_neg (show ¬ o = 0 from hc)] at hq
        refine R_aload_n rfl rfl ?_
        refine R_aload_n rfl rfl ?_
        refine R_getI rfl rfl (Or.inl rfl) ?_
        refine R_iload_n rfl rfl ?_
        refine R_iadd rfl ?_
        refine R_put rfl rfl rfl ?_
        refine R_goto (pc' := 147) rfl rfl ?_
        refine R_iload_n rfl rfl ?_
        exact R_iret rfl rfl trivial hq
    · exact absurd (Int32.not_le.mp hc) hfr
  · intro s hs nx
    refine R_aload_n rfl rfl ?_
    refine R_getA rfl rfl (Or.inl rfl) ?_
    refine R_iload_n rfl rfl ?_
    refine R_iald rfl rfl rfl (show _ < 1500 from by omega) ?_
    refine R_if (pc' := 72) rfl rfl (fun hc => ?_) (fun hc => ?_)
    · exact absurd (hall s hs) (Int32.not_lt.mpr hc)
    · refine R_iinc (lv' := [(3, _), (2, _), (0, _), (1, _)]) rfl rfl (by exact nI_1 _) rfl ?_
      refine R_goto (pc' := 57) rfl rfl ?_
      exact nx
theorem r_make {d : Nat} {M : Mem} {p f : Nat} {lm : Nat → Nat} {x : Int32} (hw : wfR M p f lm) (hf : ∃ i, i < 1500 ∧ ¬ 0 < M 29 i) : CQ (d + 5) j_X9_make [.ref 0, .int x] M (mkR M p f lm x) := by
  refine CQ_of (md := md_X9_make) (d := d + 4) rfl (Nat.le_of_ble_eq_true rfl) ?_
  show WR (CalR (d + 4)) t_X9_make 9 (some .int) _ 0 [(0, .ref 0), (1, .int x)] [] _
  obtain ⟨i0, hi0, hfr⟩ := hf
  have rest : ∀ M1 : Mem, wfR M1 p f lm → ¬ 0 < M1 29 i0 → ((¬ M 0 0 - M 41 0 < x ∧ M1 = M) ∨ (M 0 0 - M 41 0 < x ∧ minR M p f lm (some (.int 1)) M1)) → WR (CalR (d + 4)) t_X9_make 9 (some .int) (mkR M p f lm x) 22 [(0, .ref 0), (1, .int x)] [] M1 := by
    intro M1 hw1 hf1 hcase
    refine R_aload_n rfl rfl ?_
    refine R_getI rfl rfl (Or.inl rfl) ?_
    refine R_aload_n rfl rfl ?_
    refine R_getI rfl rfl (Or.inl rfl) ?_
    refine R_isub rfl ?_
    refine R_iload_n rfl rfl ?_
    refine R_icmp (pc' := 39) rfl rfl (fun hc => ?_) (fun hc => ?_)
    · have hno : ¬ M1 0 0 - M1 41 0 < x := Int32.not_lt.mpr hc
      refine R_iconst (y := nI 0) rfl (by decide) ?_
      refine R_istore_n (lv' := [(2, _), (0, _), (1, _)]) rfl rfl ?_
      refine R_iload_n rfl rfl ?_
      refine R_if (pc' := 55) rfl rfl (fun hc => ?_) (fun hc => absurd nI_0 hc)
      exact r_makeE (Or.inl rfl) ⟨i0, hi0, hf1⟩ _ (fun i hi => Or.inr ⟨M1, hcase, Or.inl ⟨hno, i, hi, rfl, rfl⟩⟩)
    · have hyes : M1 0 0 - M1 41 0 < x := Int32.not_le.mp hc
      refine R_iconst (y := nI 1) rfl (by decide) ?_
      refine R_goto (pc' := 40) rfl rfl ?_
      refine R_istore_n (lv' := [(2, _), (0, _), (1, _)]) rfl rfl ?_
      refine R_iload_n rfl rfl ?_
      refine R_if (pc' := 55) rfl rfl (fun hc => absurd hc (show ¬ (1 : Int32) = 0 by decide)) (fun hc => ?_)
      refine R_aload_n rfl rfl ?_
      refine R_iload_n rfl rfl ?_
      refine R_vq rfl rfl rfl rfl rfl rfl rfl (Nat.le_of_ble_eq_true rfl) (r_greatHas hw1) ?_
      intro v M3 hg
      have hv : v = some (.int 1) ∨ v = some (.int 0) := by
        rcases hg with ⟨-, h, -⟩ | ⟨-, L0, -, -, ⟨-, h⟩ | ⟨-, h⟩⟩
        · exact Or.inl h
        · exact Or.inl h
        · exact Or.inr h
      rcases hv with rfl | rfl
      · refine R_if (pc' := 55) rfl rfl (fun hc => ?_) (fun hc => absurd (show ¬ (1 : Int32) = 0 by decide) hc)
        exact r_makeE (Or.inr rfl) ⟨i0, hi0, (ghR_wf hw1 hg).2 i0 hf1⟩ _ (fun i hi => Or.inr ⟨M1, hcase, Or.inr ⟨hyes, Or.inr ⟨M3, i, hg, hi, rfl, rfl⟩⟩⟩)
      · refine R_if (pc' := 55) rfl rfl (fun hc => absurd rfl hc) (fun hc => ?_)
        refine R_iconst (y := (-1)) rfl (by decide) ?_
        exact R_iret rfl rfl trivial (Or.inr ⟨M1, hcase, Or.inr ⟨hyes, Or.inl ⟨hg, rfl⟩⟩⟩)
  refine R_aload_n rfl rfl ?_
  refine R_getI rfl rfl (Or.inl rfl) ?_
  refine R_aload_n rfl rfl ?_
  refine R_getI rfl rfl (Or.inl rfl) ?_
  refine R_isub rfl ?_
  refine R_iload_n rfl rfl ?_
  refine R_icmp (pc' := 22) rfl rfl (fun hc => ?_) (fun hc => ?_)
  · exact rest M hw hfr (Or.inl ⟨Int32.not_lt.mpr hc, rfl⟩)
  · have hyes : M 0 0 - M 41 0 < x := Int32.not_le.mp hc
    refine R_aload_n rfl rfl ?_
    refine R_vq rfl rfl rfl rfl rfl rfl rfl (Nat.le_of_ble_eq_true rfl) (r_minor hw) ?_
    intro v M1 hg
    have hv : v = some (.int 1) ∨ v = some (.int 0) := by
      rcases hg with ⟨L, -, -, h, -⟩ | ⟨L, L0, L2, -, -, -, -, ⟨-, h, -⟩ | ⟨-, h, -⟩⟩
      · exact Or.inl h
      · exact Or.inl h
      · exact Or.inr h
    rcases hv with rfl | rfl
    · refine R_if (pc' := 22) rfl rfl (fun hc => ?_) (fun hc => absurd (show ¬ (1 : Int32) = 0 by decide) hc)
      exact rest M1 (minR_wf hw hg).1 ((minR_wf hw hg).2 i0 hfr) (Or.inr ⟨hyes, hg⟩)
    · refine R_if (pc' := 22) rfl rfl (fun hc => absurd rfl hc) (fun hc => ?_)
      refine R_iconst (y := (-1)) rfl (by decide) ?_
      exact R_iret rfl rfl trivial (Or.inl ⟨hyes, hg, rfl⟩)
