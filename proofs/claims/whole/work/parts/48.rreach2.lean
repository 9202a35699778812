/-! ===== the reference: reach ===== -/
theorem R_mk {d : Nat} {t : List (Nat × Instr × Nat)} {oc : Nat} {rt : Option FieldType} {Qr : Option Value → Mem → Prop} {pc : Nat} {lv : Lv} {r : List Value} {M M1 : Mem} {L : List Nat} {k x : Int32} {len i ix : Nat} {Rch D : Nat → Prop} (h : t.lookup pc = some (.invokevirtual i, len)) (hm : mres oc i = some (0, j_X9_mark, ix)) (hw : wgt r ≤ 8) (hmk : mkl M M1 L) (hsub : ∀ i ∈ L, Rch i) (hcov : ∀ i, i < 1500 → D i → i ∈ L) (hv : okv k x) (hnew : ∀ i, i < 1500 → k = 2 → x = nI i → Rch i)
    (kk : ∀ (L2 : List Nat) (M2 : Mem), mkl M M2 L2 → (∀ i ∈ L2, Rch i) → (∃ T, L2 = L ++ T) → (∀ i, i < 1500 → (D i ∨ (k = 2 ∧ x = nI i)) → i ∈ L2) → WR (CalR (d + 1)) t oc rt Qr (pc + 3) lv r M2) : WR (CalR (d + 1)) t oc rt Qr pc lv (.int x :: .int k :: .ref 0 :: r) M1 := by
  refine R_vq h hm rfl rfl rfl rfl rfl hw (r_markL hmk hv) ?_
  rintro v M2 ⟨rfl, L2, h1, ⟨T, hT⟩, h3, h4⟩
  refine kk L2 M2 h1 (fun i hi => ?_) ⟨T, hT⟩ (fun i hi hd => ?_)
  · rcases h3 i hi with q | ⟨q1, q2, q3⟩
    · exact hsub i q
    · exact hnew i q3 q1 q2
  · rcases hd with q | ⟨q1, q2⟩
    · rw [hT]
      exact List.mem_append_left _ (hcov i hi q)
    · exact h4 i q1 q2 hi
set_option maxHeartbeats 4000000 in
theorem r_reach {d : Nat} {M : Mem} {p f : Nat} {lm : Nat → Nat} {b : Int32} (hw : wfR M p f lm) (hb : b = 0 ∨ b = 1) : CQ (d + 2) j_X9_reach [.ref 0, .int b] M (fun v M2 => v = none ∧ ∃ L, mkl M M2 L ∧ ∀ i, i < 1500 → (i ∈ L ↔ rchR M p f lm (b = 1) i)) := by
  obtain ⟨w1, w2, w3, w4, w5, w6, w7, w8, w9, w10, w11⟩ := id hw
  refine CQ_of (md := md_X9_reach) (d := d + 1) rfl (Nat.le_of_ble_eq_true rfl) ?_
  show WR (CalR (d + 1)) t_X9_reach 9 none _ 0 [(0, .ref 0), (1, .int b)] [] _
  generalize hQ : (fun (v : Option Value) (M2 : Mem) => v = none ∧ ∃ L, mkl M M2 L ∧ ∀ i, i < 1500 → (i ∈ L ↔ rchR M p f lm (b = 1) i)) = Q
  -- the queue
  have s8 : ∀ (k a : Nat) (L : List Nat) (M1 : Mem), mkl M M1 L → a ≤ L.length → L.length ≤ 1500 → 1500 - a ≤ k → (∀ i ∈ L, rchR M p f lm (b = 1) i) → (∀ i, i < 1500 → (rootR M p f lm i ∨ (b = 1 ∧ 0 < M 29 i ∧ ¬ M 30 i = 0)) → i ∈ L) → (∀ c i, c < a → L[c]? = some i → ∀ j, j < 1500 → edgeR M i j → j ∈ L) → WR (CalR (d + 1)) t_X9_reach 9 none Q 251 [(2, .int (nI a)), (0, .ref 0), (1, .int b)] [] M1 := by
    intro k
    induction k with
    | zero =>
      intro a L M1 hmk ha hL hk hsub hcov hcl
      have hql : M1 39 0 = nI L.length := hmk.2.2.2.1
      obtain rfl : a = L.length := by omega
      refine R_iload_n rfl rfl ?_
      refine R_aload_n rfl rfl ?_
      refine R_getI rfl rfl (Or.inl rfl) ?_
      try refine R_top (y := nI _) (by assumption) ?_
      refine R_icmp (pc' := 344) rfl rfl (fun hc => ?_) (fun hc => ?_)
      · rw [← hQ]
        refine R_ret rfl rfl ⟨rfl, L, hmk, fun i hi => ⟨fun q => hsub i q, fun q => rch_least (A := fun i => i ∈ L) (fun i hi q => hcov i hi q) (fun i j hi hj q e => ?_) i q⟩⟩
        obtain ⟨c, hc⟩ := List.getElem?_of_mem q
        exact hcl c i (List.getElem?_eq_some_iff.mp hc).1 hc j hj e
      · exact (ge_yes hc).elim
    | succ k ih =>
      intro a L M1 hmk ha hL hk hsub hcov hcl
      have hql : M1 39 0 = nI L.length := hmk.2.2.2.1
      refine R_iload_n rfl rfl ?_
      refine R_aload_n rfl rfl ?_
      refine R_getI rfl rfl (Or.inl rfl) ?_
      try refine R_top (y := nI _) (by assumption) ?_
      refine R_icmp (pc' := 344) rfl rfl (fun hc => ?_) (fun hc => ?_)
      · have haL : a = L.length := by
          apply Classical.byContradiction
          intro hne
          exact ge_no (show a < L.length by omega) (by omega) hc
        subst haL
        rw [← hQ]
        refine R_ret rfl rfl ⟨rfl, L, hmk, fun i hi => ⟨fun q => hsub i q, fun q => rch_least (A := fun i => i ∈ L) (fun i hi q => hcov i hi q) (fun i j hi hj q e => ?_) i q⟩⟩
        obtain ⟨c, hc⟩ := List.getElem?_of_mem q
        exact hcl c i (List.getElem?_eq_some_iff.mp hc).1 hc j hj e
      · have hlt : a < L.length := Nat.lt_of_not_le (fun q => hc (nI_le q (by omega)))
        obtain ⟨i, hi⟩ : ∃ i, L[a]? = some i := ⟨L[a], List.getElem?_eq_getElem hlt⟩
        have hiL : i ∈ L := List.mem_of_getElem? hi
        have hi15 : i < 1500 := hmk.2.2.1 i hiL
        have hqu : M1 38 a = nI i := hmk.2.2.2.2.1 a i hi
        have hri := hsub i hiL
        obtain ⟨⟨nn, hnn, hmany⟩, hpar, hsl⟩ := w11 i hi15
        have hm1 : M1 32 i = nI nn := (hmk.1 32 i (by omega)).trans hmany
        refine R_aload_n rfl rfl ?_
        refine R_getA rfl rfl (Or.inl rfl) ?_
        refine R_iload_n rfl rfl ?_
        refine R_iald rfl rfl rfl (show _ < 1500 from by omega) ?_
        try refine R_top (y := nI _) (by assumption) ?_
        refine R_istore_n (lv' := [(3, _), (2, _), (0, _), (1, _)]) rfl rfl ?_
        -- behind the parent: the slots
        have inner : ∀ (L2 : List Nat) (M2 : Mem), mkl M M2 L2 → (∀ i ∈ L2, rchR M p f lm (b = 1) i) → (∃ T, L2 = L ++ T) → (∀ j, j < 1500 → M 31 i = nI j → j ∈ L2) → WR (CalR (d + 1)) t_X9_reach 9 none Q 290 [(3, .int (nI i)), (2, .int (nI a)), (0, .ref 0), (1, .int b)] [] M2 := by
          intro L2 M2 g1 g2 g3 g4
          refine R_iconst (y := nI 0) rfl (by decide) ?_
          refine R_istore (lv' := [(4, _), (3, _), (2, _), (0, _), (1, _)]) rfl rfl ?_
          refine dn_up (P := fun s => ∀ (L3 : List Nat) (M3 : Mem), mkl M M3 L3 → (∀ i ∈ L3, rchR M p f lm (b = 1) i) → (∃ T, L3 = L ++ T) → (∀ j, j < 1500 → (M 31 i = nI j ∨ ∃ s', s' < s ∧ M 35 (40 * i + s') = 2 ∧ M 36 (40 * i + s') = nI j) → j ∈ L3) → WR (CalR (d + 1)) t_X9_reach 9 none Q 293 [(4, .int (nI s)), (3, .int (nI i)), (2, .int (nI a)), (0, .ref 0), (1, .int b)] [] M3) (N := nn) ?_ ?_ 0 (Nat.zero_le _) L2 M2 g1 g2 g3 (fun j hj q => by
            rcases q with q | ⟨s', q, -⟩
            · exact g4 j hj q
            · omega)
          · intro L3 M3 f1 f2 f3 f4
            have hm3 : M3 32 i = nI nn := (f1.1 32 i (by omega)).trans hmany
            refine R_iload rfl rfl ?_
            refine R_aload_n rfl rfl ?_
            refine R_getA rfl rfl (Or.inl rfl) ?_
            refine R_iload_n rfl rfl ?_
            refine R_iald rfl rfl rfl (show _ < 1500 from by omega) ?_
            try refine R_top (y := nI _) (by assumption) ?_
            refine R_icmp (pc' := 338) rfl rfl (fun hc => ?_) (fun hc => ?_)
            · refine R_iinc (lv' := [(2, _), (4, _), (3, _), (0, _), (1, _)]) rfl rfl (by exact nI_1 _) rfl ?_
              refine R_goto (pc' := 251) rfl rfl ?_
              refine R_sub [0, 3, 4] rfl rfl rfl ?_
              obtain ⟨T, rfl⟩ := f3
              have hl3 := nodup_le 1500 _ f1.2.1 f1.2.2.1
              refine ih (a + 1) _ M3 f1 (by rw [List.length_append]; omega) hl3 (by omega) f2 (fun j hj q => List.mem_append_left _ (hcov j hj q)) (fun c i' hc' hi' j hj e => ?_)
              by_cases hca : c = a
              · subst hca
                rw [List.getElem?_append_left hlt, hi] at hi'
                cases hi'
                rcases e with e | ⟨n', s', e1, e2, e3, e4, e5⟩
                · exact f4 j hj (Or.inl e)
                · have : n' = nn := (nI_eq (by omega) (by omega)).mp (e1.symm.trans hmany)
                  exact f4 j hj (Or.inr ⟨s', by omega, e4, e5⟩)
              · rw [List.getElem?_append_left (by omega)] at hi'
                exact List.mem_append_left _ (hcl c i' (by omega) hi' j hj e)
            · exact (ge_yes hc).elim
          · intro s hs nx L3 M3 f1 f2 f3 f4
            have hm3 : M3 32 i = nI nn := (f1.1 32 i (by omega)).trans hmany
            refine R_iload rfl rfl ?_
            refine R_aload_n rfl rfl ?_
            refine R_getA rfl rfl (Or.inl rfl) ?_
            refine R_iload_n rfl rfl ?_
            refine R_iald rfl rfl rfl (show _ < 1500 from by omega) ?_
            try refine R_top (y := nI _) (by assumption) ?_
            refine R_icmp (pc' := 338) rfl rfl (fun hc => ?_) (fun hc => ?_)
            · exact (ge_no hs (by omega) hc).elim
            · refine R_aload_n rfl rfl ?_
              refine R_aload_n rfl rfl ?_
              refine R_getA rfl rfl (Or.inl rfl) ?_
              refine R_bipush (y := nI 40) rfl (by decide) ?_
              refine R_iload_n rfl rfl ?_
              first | refine R_imulN rfl ?_ | refine R_imul rfl ?_
              refine R_iload rfl rfl ?_
              first | refine R_iaddN rfl ?_ | refine R_iadd rfl ?_
              refine R_iald rfl rfl rfl (show _ < 60000 from by omega) ?_
              try refine R_top (y := nI _) (by assumption) ?_
              refine R_aload_n rfl rfl ?_
              refine R_getA rfl rfl (Or.inl rfl) ?_
              refine R_bipush (y := nI 40) rfl (by decide) ?_
              refine R_iload_n rfl rfl ?_
              first | refine R_imulN rfl ?_ | refine R_imul rfl ?_
              refine R_iload rfl rfl ?_
              first | refine R_iaddN rfl ?_ | refine R_iadd rfl ?_
              refine R_iald rfl rfl rfl (show _ < 60000 from by omega) ?_
              try refine R_top (y := nI _) (by assumption) ?_
              refine R_mk (D := fun j => M 31 i = nI j ∨ ∃ s', s' < s ∧ M 35 (40 * i + s') = 2 ∧ M 36 (40 * i + s') = nI j) rfl rfl (Nat.le_of_ble_eq_true rfl) f1 f2 f4 (by rw [f1.1 35 _ (by omega), f1.1 36 _ (by omega)]; exact hsl s (by omega)) (fun j hj q1 q2 => ?_) (fun L4 M4 e1 e2 e3 e4 => ?_)
              · rw [f1.1 35 _ (by omega)] at q1
                rw [f1.1 36 _ (by omega)] at q2
                exact rch_edge hri (Or.inr ⟨nn, s, hmany, hnn, hs, q1, q2⟩) hj
              · refine R_iinc (lv' := [(4, _), (3, _), (2, _), (0, _), (1, _)]) rfl rfl (by exact nI_1 _) rfl ?_
                refine R_goto (pc' := 293) rfl rfl ?_
                obtain ⟨T3, rfl⟩ := f3
                obtain ⟨T4, rfl⟩ := e3
                refine nx _ M4 e1 e2 ⟨T3 ++ T4, by rw [List.append_assoc]⟩ (fun j hj q => ?_)
                rcases q with q | ⟨s', q1, q2, q3⟩
                · exact e4 j hj (Or.inl (Or.inl q))
                · by_cases hss : s' = s
                  · subst hss
                    exact e4 j hj (Or.inr ⟨by rw [f1.1 35 _ (by omega)]; exact q2, by rw [f1.1 36 _ (by omega)]; exact q3⟩)
                  · exact e4 j hj (Or.inl (Or.inr ⟨s', by omega, q2, q3⟩))
        rcases hpar with hpar | ⟨j, hj, hpar⟩
        · have hp1 : -1 = M1 31 i := ((hmk.1 31 i (by omega)).trans hpar).symm
          refine R_aload_n rfl rfl ?_
          refine R_aload_n rfl rfl ?_
          refine R_getA rfl rfl (Or.inl rfl) ?_
          refine R_iload_n rfl rfl ?_
          refine R_iald rfl rfl rfl (show _ < 1500 from by omega) ?_
          try refine R_top (y := nI _) (by assumption) ?_
          refine R_top hp1.symm ?_
          refine R_if (pc' := 280) rfl rfl (fun hc => ?_) (fun hc => ?_)
          · exact absurd hc (show ¬ (0 : Int32) ≤ -1 by decide)
          · refine R_iconst (y := nI 0) rfl (by decide) ?_
            refine R_goto (pc' := 281) rfl rfl ?_
            refine R_aload_n rfl rfl ?_
            refine R_getA rfl rfl (Or.inl rfl) ?_
            refine R_iload_n rfl rfl ?_
            refine R_iald rfl rfl rfl (show _ < 1500 from by omega) ?_
            try refine R_top (y := nI _) (by assumption) ?_
            refine R_top hp1.symm ?_
            refine R_mk (D := fun _ => False) rfl rfl (Nat.le_of_ble_eq_true rfl) hmk hsub (fun _ _ q => q.elim) (fun q => absurd q (by decide)) (fun _ _ q => absurd q (by decide)) (fun L2 M2 g1 g2 g3 g4 => ?_)
            exact inner L2 M2 g1 g2 g3 (fun j hj q => absurd (hpar.symm.trans q) (fun e => absurd (congrArg Int32.toInt e) (by rw [nI_toInt (by omega)]; show ¬ (-1 : Int) = _; omega)))
        · have hp1 : M1 31 i = nI j := (hmk.1 31 i (by omega)).trans hpar
          refine R_aload_n rfl rfl ?_
          refine R_aload_n rfl rfl ?_
          refine R_getA rfl rfl (Or.inl rfl) ?_
          refine R_iload_n rfl rfl ?_
          refine R_iald rfl rfl rfl (show _ < 1500 from by omega) ?_
          try refine R_top (y := nI _) (by assumption) ?_
          refine R_if (pc' := 280) rfl rfl (fun hc => ?_) (fun hc => ?_)
          · refine R_iconst (y := nI 2) rfl (by decide) ?_
            refine R_aload_n rfl rfl ?_
            refine R_getA rfl rfl (Or.inl rfl) ?_
            refine R_iload_n rfl rfl ?_
            refine R_iald rfl rfl rfl (show _ < 1500 from by omega) ?_
            try refine R_top (y := nI _) (by assumption) ?_
            refine R_mk (D := fun _ => False) rfl rfl (Nat.le_of_ble_eq_true rfl) hmk hsub (fun _ _ q => q.elim) (fun _ => ⟨j, hj, rfl⟩) (fun j' hj' _ q => ?_) (fun L2 M2 g1 g2 g3 g4 => ?_)
            · have : j = j' := (nI_eq (by omega) (by omega)).mp q
              subst this
              exact rch_edge hri (Or.inl hpar) hj
            · exact inner L2 M2 g1 g2 g3 (fun j' hj' q => g4 j' hj' (Or.inr ⟨rfl, hpar.symm.trans q⟩))
          · exact absurd (nI_pos' (by omega)) hc
  -- old ones
  have s7 : ∀ (L : List Nat) (M1 : Mem), mkl M M1 L → (∀ i ∈ L, rchR M p f lm (b = 1) i) → (∀ i, i < 1500 → rootR M p f lm i → i ∈ L) → WR (CalR (d + 1)) t_X9_reach 9 none Q 202 [(2, .int (nI 4)), (0, .ref 0), (1, .int b)] [] M1 := by
    intro L0 M0 q1 q2 q3
    have fin : ∀ (s : Nat) (L : List Nat) (M1 : Mem), mkl M M1 L → (∀ i ∈ L, rchR M p f lm (b = 1) i) → (∀ i, i < 1500 → (rootR M p f lm i ∨ (b = 1 ∧ 0 < M 29 i ∧ ¬ M 30 i = 0)) → i ∈ L) → WR (CalR (d + 1)) t_X9_reach 9 none Q 249 [(2, .int (nI s)), (0, .ref 0), (1, .int b)] [] M1 := by
      intro s L M1 g1 g2 g3
      refine R_iconst (y := nI 0) rfl (by decide) ?_
      refine R_istore_n (lv' := [(2, _), (0, _), (1, _)]) rfl rfl ?_
      exact s8 1500 0 L M1 g1 (Nat.zero_le _) (nodup_le 1500 _ g1.2.1 g1.2.2.1) (by omega) g2 g3 (fun c i hc => absurd hc (by omega))
    refine R_iconst (y := nI 0) rfl (by decide) ?_
    refine R_istore_n (lv' := [(2, _), (0, _), (1, _)]) rfl rfl ?_
    refine dn_up (P := fun s => ∀ (L : List Nat) (M1 : Mem), mkl M M1 L → (∀ i ∈ L, rchR M p f lm (b = 1) i) → (∀ i, i < 1500 → (rootR M p f lm i ∨ (i < s ∧ b = 1 ∧ 0 < M 29 i ∧ ¬ M 30 i = 0)) → i ∈ L) → WR (CalR (d + 1)) t_X9_reach 9 none Q 204 [(2, .int (nI s)), (0, .ref 0), (1, .int b)] [] M1) (N := 1500) ?_ ?_ 0 (Nat.zero_le _) L0 M0 q1 q2 (fun i hi q => by
      rcases q with q | ⟨q, -⟩
      · exact q3 i hi q
      · omega)
    · intro L M1 g1 g2 g3
      refine R_iload_n rfl rfl ?_
      refine R_sipush (y := nI 1500) rfl (by decide) ?_
      refine R_icmp (pc' := 249) rfl rfl (fun hc => ?_) (fun hc => ?_)
      · exact fin 1500 L M1 g1 g2 (fun i hi q => g3 i hi (by
          rcases q with q | q
          · exact Or.inl q
          · exact Or.inr ⟨hi, q⟩))
      · exact (ge_yes hc).elim
    · intro s hs nx L M1 g1 g2 g3
      refine R_iload_n rfl rfl ?_
      refine R_sipush (y := nI 1500) rfl (by decide) ?_
      refine R_icmp (pc' := 249) rfl rfl (fun hc => ?_) (fun hc => ?_)
      · exact (ge_no hs (by omega) hc).elim
      · refine R_iload_n rfl rfl ?_
        refine R_if (pc' := 249) rfl rfl (fun hc => ?_) (fun hc => ?_)
        · have hb0 : b = 0 := hc
          exact fin s L M1 g1 g2 (fun i hi q => g3 i hi (by
            rcases q with q | ⟨q, -⟩
            · exact Or.inl q
            · rw [hb0] at q
              exact absurd q (by decide)))
        · have hb1 : b = 1 := by
            rcases hb with q | q
            · exact absurd q hc
            · exact q
          have go0 : (¬ (0 < M 29 s ∧ ¬ M 30 s = 0)) → WR (CalR (d + 1)) t_X9_reach 9 none Q 238 [(2, .int (nI s)), (0, .ref 0), (1, .int b)] [.ref 0] M1 := by
            intro hno
            refine R_iconst (y := nI 0) rfl (by decide) ?_
            refine R_iload_n rfl rfl ?_
            refine R_mk (D := fun i => rootR M p f lm i ∨ (i < s ∧ b = 1 ∧ 0 < M 29 i ∧ ¬ M 30 i = 0)) rfl rfl (Nat.le_of_ble_eq_true rfl) g1 g2 g3 (fun q => absurd q (by decide)) (fun _ _ q => absurd q (by decide)) (fun L2 M2 e1 e2 e3 e4 => ?_)
            refine R_iinc (lv' := [(2, _), (0, _), (1, _)]) rfl rfl (by exact nI_1 _) rfl ?_
            refine R_goto (pc' := 204) rfl rfl ?_
            refine nx L2 M2 e1 e2 (fun i hi q => ?_)
            rcases q with q | ⟨q1, q2⟩
            · exact e4 i hi (Or.inl (Or.inl q))
            · by_cases his : i = s
              · subst his
                exact absurd q2.2 hno
              · exact e4 i hi (Or.inl (Or.inr ⟨by omega, q2⟩))
          refine R_aload_n rfl rfl ?_
          refine R_aload_n rfl rfl ?_
          refine R_getA rfl rfl (Or.inl rfl) ?_
          refine R_iload_n rfl rfl ?_
          refine R_iald rfl rfl rfl (show _ < 1500 from by omega) ?_
          try refine R_top (y := nI _) (by assumption) ?_
          refine R_top (g1.1 29 s (by omega)) ?_
          refine R_if (pc' := 238) rfl rfl (fun hc => ?_) (fun hc => ?_)
          · exact go0 (fun q => Int32.not_le.mpr q.1 hc)
          · have hlive : 0 < M 29 s := Int32.not_le.mp hc
            refine R_aload_n rfl rfl ?_
            refine R_getA rfl rfl (Or.inr rfl) ?_
            refine R_iload_n rfl rfl ?_
            refine R_bald rfl rfl rfl (show _ < 1500 from by omega) ?_
            try refine R_top (y := nI _) (by assumption) ?_
            refine R_top (g1.1 30 s (by omega)) ?_
            refine R_if (pc' := 238) rfl rfl (fun hc => ?_) (fun hc => ?_)
            · exact go0 (fun q => q.2 hc)
            · have hold : ¬ M 30 s = 0 := hc
              refine R_iconst (y := nI 2) rfl (by decide) ?_
              refine R_goto (pc' := 239) rfl rfl ?_
              refine R_iload_n rfl rfl ?_
              refine R_mk (D := fun i => rootR M p f lm i ∨ (i < s ∧ b = 1 ∧ 0 < M 29 i ∧ ¬ M 30 i = 0)) rfl rfl (Nat.le_of_ble_eq_true rfl) g1 g2 g3 (fun _ => ⟨s, hs, rfl⟩) (fun j hj _ q => ?_) (fun L2 M2 e1 e2 e3 e4 => ?_)
              · have : s = j := (nI_eq (by omega) (by omega)).mp q
                subst this
                exact ⟨hj, 0, Or.inr ⟨hb1, hlive, hold⟩⟩
              · refine R_iinc (lv' := [(2, _), (0, _), (1, _)]) rfl rfl (by exact nI_1 _) rfl ?_
                refine R_goto (pc' := 204) rfl rfl ?_
                refine nx L2 M2 e1 e2 (fun i hi q => ?_)
                rcases q with q | ⟨q1, q2⟩
                · exact e4 i hi (Or.inl (Or.inl q))
                · by_cases his : i = s
                  · subst his
                    exact e4 i hi (Or.inr ⟨rfl, rfl⟩)
                  · exact e4 i hi (Or.inl (Or.inr ⟨by omega, q2⟩))
  -- protos
  have s6 : ∀ (L : List Nat) (M1 : Mem), mkl M M1 L → (∀ i ∈ L, rchR M p f lm (b = 1) i) → (∀ i, i < 1500 → ((∃ j, j < p ∧ M 12 j = 2 ∧ M 13 j = nI i) ∨ (∃ g, g < f ∧ M 17 g = 2 ∧ M 18 g = nI i) ∨ (∃ g k, g < f ∧ k < lm g ∧ M 20 (16 * g + k) = 2 ∧ M 21 (16 * g + k) = nI i) ∨ (∃ k, k < 16 ∧ M 23 k = 2 ∧ M 24 k = nI i)) → i ∈ L) → WR (CalR (d + 1)) t_X9_reach 9 none Q 165 [(2, .int (nI 16)), (0, .ref 0), (1, .int b)] [] M1 := by
    intro L0 M0 q1 q2 q3
    refine R_iconst (y := nI 0) rfl (by decide) ?_
    refine R_istore_n (lv' := [(2, _), (0, _), (1, _)]) rfl rfl ?_
    refine dn_up (P := fun s => ∀ (L : List Nat) (M1 : Mem), mkl M M1 L → (∀ i ∈ L, rchR M p f lm (b = 1) i) → (∀ i, i < 1500 → (((∃ j, j < p ∧ M 12 j = 2 ∧ M 13 j = nI i) ∨ (∃ g, g < f ∧ M 17 g = 2 ∧ M 18 g = nI i) ∨ (∃ g k, g < f ∧ k < lm g ∧ M 20 (16 * g + k) = 2 ∧ M 21 (16 * g + k) = nI i) ∨ (∃ k, k < 16 ∧ M 23 k = 2 ∧ M 24 k = nI i)) ∨ ∃ k, k < s ∧ M 25 k = nI i) → i ∈ L) → WR (CalR (d + 1)) t_X9_reach 9 none Q 167 [(2, .int (nI s)), (0, .ref 0), (1, .int b)] [] M1) (N := 4) ?_ ?_ 0 (Nat.zero_le _) L0 M0 q1 q2 (fun i hi q => by
      rcases q with q | ⟨k, q, -⟩
      · exact q3 i hi q
      · omega)
    · intro L M1 g1 g2 g3
      refine R_iload_n rfl rfl ?_
      refine R_iconst (y := nI 4) rfl (by decide) ?_
      refine R_icmp (pc' := 202) rfl rfl (fun hc => ?_) (fun hc => ?_)
      · exact s7 L M1 g1 g2 (fun i hi q => g3 i hi (by
          rcases q with q | q | q | q | q
          · exact Or.inl (Or.inl q)
          · exact Or.inl (Or.inr (Or.inl q))
          · exact Or.inl (Or.inr (Or.inr (Or.inl q)))
          · exact Or.inl (Or.inr (Or.inr (Or.inr q)))
          · exact Or.inr q))
      · exact (ge_yes hc).elim
    · intro s hs nx L M1 g1 g2 g3
      refine R_iload_n rfl rfl ?_
      refine R_iconst (y := nI 4) rfl (by decide) ?_
      refine R_icmp (pc' := 202) rfl rfl (fun hc => ?_) (fun hc => ?_)
      · exact (ge_no hs (by omega) hc).elim
      · rcases w10 s hs with hpr | ⟨j, hj, hpr⟩
        · have hp1 : -1 = M1 25 s := ((g1.1 25 s (by omega)).trans hpr).symm
          refine R_aload_n rfl rfl ?_
          refine R_aload_n rfl rfl ?_
          refine R_getA rfl rfl (Or.inl rfl) ?_
          refine R_iload_n rfl rfl ?_
          refine R_iald rfl rfl rfl (show _ < 4 from by omega) ?_
          try refine R_top (y := nI _) (by assumption) ?_
          refine R_top hp1.symm ?_
          refine R_if (pc' := 186) rfl rfl (fun hc => ?_) (fun hc => ?_)
          · exact absurd hc (show ¬ (0 : Int32) ≤ -1 by decide)
          · refine R_iconst (y := nI 0) rfl (by decide) ?_
            refine R_goto (pc' := 187) rfl rfl ?_
            refine R_aload_n rfl rfl ?_
            refine R_getA rfl rfl (Or.inl rfl) ?_
            refine R_iload_n rfl rfl ?_
            refine R_iald rfl rfl rfl (show _ < 4 from by omega) ?_
            try refine R_top (y := nI _) (by assumption) ?_
            refine R_top hp1.symm ?_
            refine R_mk rfl rfl (Nat.le_of_ble_eq_true rfl) g1 g2 g3 (fun q => absurd q (by decide)) (fun _ _ q => absurd q (by decide)) (fun L2 M2 e1 e2 e3 e4 => ?_)
            refine R_iinc (lv' := [(2, _), (0, _), (1, _)]) rfl rfl (by exact nI_1 _) rfl ?_
            refine R_goto (pc' := 167) rfl rfl ?_
            refine nx L2 M2 e1 e2 (fun i hi q => e4 i hi (Or.inl ?_))
            rcases q with q | ⟨k, q, q5⟩
            · exact Or.inl q
            · by_cases hks : k = s
              · subst hks
                exact absurd (hpr.symm.trans q5) (fun e => absurd (congrArg Int32.toInt e) (by rw [nI_toInt (by omega)]; show ¬ (-1 : Int) = _; omega))
              · exact Or.inr ⟨k, by omega, q5⟩
        · have hp1 : M1 25 s = nI j := (g1.1 25 s (by omega)).trans hpr
          refine R_aload_n rfl rfl ?_
          refine R_aload_n rfl rfl ?_
          refine R_getA rfl rfl (Or.inl rfl) ?_
          refine R_iload_n rfl rfl ?_
          refine R_iald rfl rfl rfl (show _ < 4 from by omega) ?_
          try refine R_top (y := nI _) (by assumption) ?_
          refine R_if (pc' := 186) rfl rfl (fun hc => ?_) (fun hc => ?_)
          · refine R_iconst (y := nI 2) rfl (by decide) ?_
            refine R_aload_n rfl rfl ?_
            refine R_getA rfl rfl (Or.inl rfl) ?_
            refine R_iload_n rfl rfl ?_
            refine R_iald rfl rfl rfl (show _ < 4 from by omega) ?_
            try refine R_top (y := nI _) (by assumption) ?_
            refine R_mk rfl rfl (Nat.le_of_ble_eq_true rfl) g1 g2 g3 (fun _ => ⟨j, hj, rfl⟩) (fun j' hj' _ q => ?_) (fun L2 M2 e1 e2 e3 e4 => ?_)
            · have : j = j' := (nI_eq (by omega) (by omega)).mp q
              subst this
              exact ⟨hj, 0, Or.inl (Or.inr (Or.inr (Or.inr (Or.inr ⟨s, hs, hpr⟩))))⟩
            · refine R_iinc (lv' := [(2, _), (0, _), (1, _)]) rfl rfl (by exact nI_1 _) rfl ?_
              refine R_goto (pc' := 167) rfl rfl ?_
              refine nx L2 M2 e1 e2 (fun i hi q => e4 i hi ?_)
              rcases q with q | ⟨k, q, q5⟩
              · exact Or.inl (Or.inl q)
              · by_cases hks : k = s
                · subst hks
                  exact Or.inr ⟨rfl, hpr.symm.trans q5⟩
                · exact Or.inl (Or.inr ⟨k, by omega, q5⟩)
          · exact absurd (nI_pos' (by omega)) hc
  -- globals
  have s5 : ∀ (L : List Nat) (M1 : Mem), mkl M M1 L → (∀ i ∈ L, rchR M p f lm (b = 1) i) → (∀ i, i < 1500 → ((∃ j, j < p ∧ M 12 j = 2 ∧ M 13 j = nI i) ∨ (∃ g, g < f ∧ M 17 g = 2 ∧ M 18 g = nI i) ∨ (∃ g k, g < f ∧ k < lm g ∧ M 20 (16 * g + k) = 2 ∧ M 21 (16 * g + k) = nI i)) → i ∈ L) → WR (CalR (d + 1)) t_X9_reach 9 none Q 135 [(2, .int (nI f)), (0, .ref 0), (1, .int b)] [] M1 := by
    intro L0 M0 q1 q2 q3
    refine R_iconst (y := nI 0) rfl (by decide) ?_
    refine R_istore_n (lv' := [(2, _), (0, _), (1, _)]) rfl rfl ?_
    refine dn_up (P := fun s => ∀ (L : List Nat) (M1 : Mem), mkl M M1 L → (∀ i ∈ L, rchR M p f lm (b = 1) i) → (∀ i, i < 1500 → (((∃ j, j < p ∧ M 12 j = 2 ∧ M 13 j = nI i) ∨ (∃ g, g < f ∧ M 17 g = 2 ∧ M 18 g = nI i) ∨ (∃ g k, g < f ∧ k < lm g ∧ M 20 (16 * g + k) = 2 ∧ M 21 (16 * g + k) = nI i)) ∨ ∃ k, k < s ∧ M 23 k = 2 ∧ M 24 k = nI i) → i ∈ L) → WR (CalR (d + 1)) t_X9_reach 9 none Q 137 [(2, .int (nI s)), (0, .ref 0), (1, .int b)] [] M1) (N := 16) ?_ ?_ 0 (Nat.zero_le _) L0 M0 q1 q2 (fun i hi q => by
      rcases q with q | ⟨k, q, -⟩
      · exact q3 i hi q
      · omega)
    · intro L M1 g1 g2 g3
      refine R_iload_n rfl rfl ?_
      refine R_bipush (y := nI 16) rfl (by decide) ?_
      refine R_icmp (pc' := 165) rfl rfl (fun hc => ?_) (fun hc => ?_)
      · exact s6 L M1 g1 g2 (fun i hi q => g3 i hi (by
          rcases q with q | q | q | q
          · exact Or.inl (Or.inl q)
          · exact Or.inl (Or.inr (Or.inl q))
          · exact Or.inl (Or.inr (Or.inr q))
          · exact Or.inr q))
      · exact (ge_yes hc).elim
    · intro s hs nx L M1 g1 g2 g3
      refine R_iload_n rfl rfl ?_
      refine R_bipush (y := nI 16) rfl (by decide) ?_
      refine R_icmp (pc' := 165) rfl rfl (fun hc => ?_) (fun hc => ?_)
      · exact (ge_no hs (by omega) hc).elim
      · refine R_aload_n rfl rfl ?_
        refine R_aload_n rfl rfl ?_
        refine R_getA rfl rfl (Or.inl rfl) ?_
        refine R_iload_n rfl rfl ?_
        refine R_iald rfl rfl rfl (show _ < 16 from by omega) ?_
        try refine R_top (y := nI _) (by assumption) ?_
        refine R_aload_n rfl rfl ?_
        refine R_getA rfl rfl (Or.inl rfl) ?_
        refine R_iload_n rfl rfl ?_
        refine R_iald rfl rfl rfl (show _ < 16 from by omega) ?_
        try refine R_top (y := nI _) (by assumption) ?_
        refine R_mk rfl rfl (Nat.le_of_ble_eq_true rfl) g1 g2 g3 (by rw [g1.1 23 _ (by omega), g1.1 24 _ (by omega)]; exact w9 s hs) (fun j hj q1 q2 => ?_) (fun L2 M2 e1 e2 e3 e4 => ?_)
        · rw [g1.1 23 _ (by omega)] at q1
          rw [g1.1 24 _ (by omega)] at q2
          exact ⟨hj, 0, Or.inl (Or.inr (Or.inr (Or.inr (Or.inl ⟨s, hs, q1, q2⟩))))⟩
        · rw [g1.1 23 _ (by omega), g1.1 24 _ (by omega)] at e4
          refine R_iinc (lv' := [(2, _), (0, _), (1, _)]) rfl rfl (by exact nI_1 _) rfl ?_
          refine R_goto (pc' := 137) rfl rfl ?_
          refine nx L2 M2 e1 e2 (fun i hi q => e4 i hi ?_)
          rcases q with q | ⟨k, q, q5⟩
          · exact Or.inl (Or.inl q)
          · by_cases hks : k = s
            · subst hks
              exact Or.inr q5
            · exact Or.inl (Or.inr ⟨k, by omega, q5⟩)
  -- frames
  have s4 : ∀ (L : List Nat) (M1 : Mem), mkl M M1 L → (∀ i ∈ L, rchR M p f lm (b = 1) i) → (∀ i, i < 1500 → (∃ j, j < p ∧ M 12 j = 2 ∧ M 13 j = nI i) → i ∈ L) → WR (CalR (d + 1)) t_X9_reach 9 none Q 59 [(2, .int (nI p)), (0, .ref 0), (1, .int b)] [] M1 := by
    intro L0 M0 q1 q2 q3
    refine R_iconst (y := nI 0) rfl (by decide) ?_
    refine R_istore_n (lv' := [(2, _), (0, _), (1, _)]) rfl rfl ?_
    refine dn_up (P := fun s => ∀ (L : List Nat) (M1 : Mem), mkl M M1 L → (∀ i ∈ L, rchR M p f lm (b = 1) i) → (∀ i, i < 1500 → ((∃ j, j < p ∧ M 12 j = 2 ∧ M 13 j = nI i) ∨ (∃ g, g < s ∧ M 17 g = 2 ∧ M 18 g = nI i) ∨ (∃ g k, g < s ∧ k < lm g ∧ M 20 (16 * g + k) = 2 ∧ M 21 (16 * g + k) = nI i)) → i ∈ L) → WR (CalR (d + 1)) t_X9_reach 9 none Q 61 [(2, .int (nI s)), (0, .ref 0), (1, .int b)] [] M1) (N := f) ?_ ?_ 0 (Nat.zero_le _) L0 M0 q1 q2 (fun i hi q => by
      rcases q with q | ⟨k, q, -⟩ | ⟨g, k, q, -⟩
      · exact q3 i hi q
      · omega
      · omega)
    · intro L M1 g1 g2 g3
      have hf1 : M1 22 0 = nI f := (g1.1 22 0 (by omega)).trans w3
      refine R_iload_n rfl rfl ?_
      refine R_aload_n rfl rfl ?_
      refine R_getI rfl rfl (Or.inl rfl) ?_
      try refine R_top (y := nI _) (by assumption) ?_
      refine R_icmp (pc' := 135) rfl rfl (fun hc => ?_) (fun hc => ?_)
      · exact s5 L M1 g1 g2 g3
      · exact (ge_yes hc).elim
    · intro g hg nx L M1 g1 g2 g3
      obtain ⟨hlm, hlm16⟩ := w5 g hg
      have hf1 : M1 22 0 = nI f := (g1.1 22 0 (by omega)).trans w3
      refine R_iload_n rfl rfl ?_
      refine R_aload_n rfl rfl ?_
      refine R_getI rfl rfl (Or.inl rfl) ?_
      try refine R_top (y := nI _) (by assumption) ?_
      refine R_icmp (pc' := 135) rfl rfl (fun hc => ?_) (fun hc => ?_)
      · exact (ge_no hg (by omega) hc).elim
      · refine R_aload_n rfl rfl ?_
        refine R_aload_n rfl rfl ?_
        refine R_getA rfl rfl (Or.inl rfl) ?_
        refine R_iload_n rfl rfl ?_
        refine R_iald rfl rfl rfl (show _ < 200 from by omega) ?_
        try refine R_top (y := nI _) (by assumption) ?_
        refine R_aload_n rfl rfl ?_
        refine R_getA rfl rfl (Or.inl rfl) ?_
        refine R_iload_n rfl rfl ?_
        refine R_iald rfl rfl rfl (show _ < 200 from by omega) ?_
        try refine R_top (y := nI _) (by assumption) ?_
        refine R_mk rfl rfl (Nat.le_of_ble_eq_true rfl) g1 g2 g3 (by rw [g1.1 17 _ (by omega), g1.1 18 _ (by omega)]; exact w7 g hg) (fun j hj q1 q2 => ?_) (fun L2 M2 e1 e2 e3 e4 => ?_)
        · rw [g1.1 17 _ (by omega)] at q1
          rw [g1.1 18 _ (by omega)] at q2
          exact ⟨hj, 0, Or.inl (Or.inr (Or.inl ⟨g, hg, q1, q2⟩))⟩
        · rw [g1.1 17 _ (by omega), g1.1 18 _ (by omega)] at e4
          refine R_iconst (y := nI 0) rfl (by decide) ?_
          refine R_istore_n (lv' := [(3, _), (2, _), (0, _), (1, _)]) rfl rfl ?_
          refine dn_up (P := fun s => ∀ (L3 : List Nat) (M3 : Mem), mkl M M3 L3 → (∀ i ∈ L3, rchR M p f lm (b = 1) i) → (∀ i, i < 1500 → ((((∃ j, j < p ∧ M 12 j = 2 ∧ M 13 j = nI i) ∨ (∃ g', g' < g ∧ M 17 g' = 2 ∧ M 18 g' = nI i) ∨ (∃ g' k, g' < g ∧ k < lm g' ∧ M 20 (16 * g' + k) = 2 ∧ M 21 (16 * g' + k) = nI i)) ∨ (M 17 g = 2 ∧ M 18 g = nI i)) ∨ ∃ k, k < s ∧ M 20 (16 * g + k) = 2 ∧ M 21 (16 * g + k) = nI i) → i ∈ L3) → WR (CalR (d + 1)) t_X9_reach 9 none Q 87 [(3, .int (nI s)), (2, .int (nI g)), (0, .ref 0), (1, .int b)] [] M3) (N := lm g) ?_ ?_ 0 (Nat.zero_le _) L2 M2 e1 e2 (fun i hi q => by
            rcases q with q | ⟨k, q, -⟩
            · exact e4 i hi q
            · omega)
          · intro L3 M3 h1 h2 h3
            have hl3 : M3 19 g = nI (lm g) := (h1.1 19 g (by omega)).trans hlm
            refine R_iload_n rfl rfl ?_
            refine R_aload_n rfl rfl ?_
            refine R_getA rfl rfl (Or.inl rfl) ?_
            refine R_iload_n rfl rfl ?_
            refine R_iald rfl rfl rfl (show _ < 200 from by omega) ?_
            try refine R_top (y := nI _) (by assumption) ?_
            refine R_icmp (pc' := 129) rfl rfl (fun hc => ?_) (fun hc => ?_)
            · refine R_iinc (lv' := [(2, _), (3, _), (0, _), (1, _)]) rfl rfl (by exact nI_1 _) rfl ?_
              refine R_goto (pc' := 61) rfl rfl ?_
              refine R_sub [0, 2, 3] rfl rfl rfl ?_
              refine nx L3 M3 h1 h2 (fun i hi q => h3 i hi ?_)
              rcases q with q | ⟨g', q, q5⟩ | ⟨g', k, q, q5⟩
              · exact Or.inl (Or.inl (Or.inl q))
              · by_cases hgg : g' = g
                · subst hgg
                  exact Or.inl (Or.inr q5)
                · exact Or.inl (Or.inl (Or.inr (Or.inl ⟨g', by omega, q5⟩)))
              · by_cases hgg : g' = g
                · subst hgg
                  exact Or.inr ⟨k, q5⟩
                · exact Or.inl (Or.inl (Or.inr (Or.inr ⟨g', k, by omega, q5⟩)))
            · exact (ge_yes hc).elim
          · intro s hs nx3 L3 M3 h1 h2 h3
            have hl3 : M3 19 g = nI (lm g) := (h1.1 19 g (by omega)).trans hlm
            refine R_iload_n rfl rfl ?_
            refine R_aload_n rfl rfl ?_
            refine R_getA rfl rfl (Or.inl rfl) ?_
            refine R_iload_n rfl rfl ?_
            refine R_iald rfl rfl rfl (show _ < 200 from by omega) ?_
            try refine R_top (y := nI _) (by assumption) ?_
            refine R_icmp (pc' := 129) rfl rfl (fun hc => ?_) (fun hc => ?_)
            · exact (ge_no hs (by omega) hc).elim
            · refine R_aload_n rfl rfl ?_
              refine R_aload_n rfl rfl ?_
              refine R_getA rfl rfl (Or.inl rfl) ?_
              refine R_bipush (y := nI 16) rfl (by decide) ?_
              refine R_iload_n rfl rfl ?_
              first | refine R_imulN rfl ?_ | refine R_imul rfl ?_
              refine R_iload_n rfl rfl ?_
              first | refine R_iaddN rfl ?_ | refine R_iadd rfl ?_
              refine R_iald rfl rfl rfl (show _ < 3200 from by omega) ?_
              try refine R_top (y := nI _) (by assumption) ?_
              refine R_aload_n rfl rfl ?_
              refine R_getA rfl rfl (Or.inl rfl) ?_
              refine R_bipush (y := nI 16) rfl (by decide) ?_
              refine R_iload_n rfl rfl ?_
              first | refine R_imulN rfl ?_ | refine R_imul rfl ?_
              refine R_iload_n rfl rfl ?_
              first | refine R_iaddN rfl ?_ | refine R_iadd rfl ?_
              refine R_iald rfl rfl rfl (show _ < 3200 from by omega) ?_
              try refine R_top (y := nI _) (by assumption) ?_
              refine R_mk rfl rfl (Nat.le_of_ble_eq_true rfl) h1 h2 h3 (by rw [h1.1 20 _ (by omega), h1.1 21 _ (by omega)]; exact w8 g s hg hs) (fun j hj q1 q2 => ?_) (fun L4 M4 f1 f2 f3 f4 => ?_)
              · rw [h1.1 20 _ (by omega)] at q1
                rw [h1.1 21 _ (by omega)] at q2
                exact ⟨hj, 0, Or.inl (Or.inr (Or.inr (Or.inl ⟨g, s, hg, hs, q1, q2⟩)))⟩
              · rw [h1.1 20 _ (by omega), h1.1 21 _ (by omega)] at f4
                refine R_iinc (lv' := [(3, _), (2, _), (0, _), (1, _)]) rfl rfl (by exact nI_1 _) rfl ?_
                refine R_goto (pc' := 87) rfl rfl ?_
                refine nx3 L4 M4 f1 f2 (fun i hi q => f4 i hi ?_)
                rcases q with q | ⟨k, q, q5⟩
                · exact Or.inl (Or.inl q)
                · by_cases hks : k = s
                  · subst hks
                    exact Or.inr q5
                  · exact Or.inl (Or.inr ⟨k, by omega, q5⟩)
  -- the pile
  have s3 : ∀ (M1 : Mem), mkl M M1 [] → WR (CalR (d + 1)) t_X9_reach 9 none Q 27 [(2, .int (nI 1500)), (0, .ref 0), (1, .int b)] [] M1 := by
    intro M0 q1
    refine R_iconst (y := nI 0) rfl (by decide) ?_
    refine R_istore_n (lv' := [(2, _), (0, _), (1, _)]) rfl rfl ?_
    refine dn_up (P := fun s => ∀ (L : List Nat) (M1 : Mem), mkl M M1 L → (∀ i ∈ L, rchR M p f lm (b = 1) i) → (∀ i, i < 1500 → (∃ j, j < s ∧ M 12 j = 2 ∧ M 13 j = nI i) → i ∈ L) → WR (CalR (d + 1)) t_X9_reach 9 none Q 29 [(2, .int (nI s)), (0, .ref 0), (1, .int b)] [] M1) (N := p) ?_ ?_ 0 (Nat.zero_le _) [] M0 q1 (fun i hi => by cases hi) (fun i hi q => by
      obtain ⟨k, q, -⟩ := q
      omega)
    · intro L M1 g1 g2 g3
      have hp1 : M1 14 0 = nI p := (g1.1 14 0 (by omega)).trans w1
      refine R_iload_n rfl rfl ?_
      refine R_aload_n rfl rfl ?_
      refine R_getI rfl rfl (Or.inl rfl) ?_
      try refine R_top (y := nI _) (by assumption) ?_
      refine R_icmp (pc' := 59) rfl rfl (fun hc => ?_) (fun hc => ?_)
      · exact s4 L M1 g1 g2 g3
      · exact (ge_yes hc).elim
    · intro s hs nx L M1 g1 g2 g3
      have hp1 : M1 14 0 = nI p := (g1.1 14 0 (by omega)).trans w1
      refine R_iload_n rfl rfl ?_
      refine R_aload_n rfl rfl ?_
      refine R_getI rfl rfl (Or.inl rfl) ?_
      try refine R_top (y := nI _) (by assumption) ?_
      refine R_icmp (pc' := 59) rfl rfl (fun hc => ?_) (fun hc => ?_)
      · exact (ge_no hs (by omega) hc).elim
      · refine R_aload_n rfl rfl ?_
        refine R_aload_n rfl rfl ?_
        refine R_getA rfl rfl (Or.inl rfl) ?_
        refine R_iload_n rfl rfl ?_
        refine R_iald rfl rfl rfl (show _ < 1000 from by omega) ?_
        try refine R_top (y := nI _) (by assumption) ?_
        refine R_aload_n rfl rfl ?_
        refine R_getA rfl rfl (Or.inl rfl) ?_
        refine R_iload_n rfl rfl ?_
        refine R_iald rfl rfl rfl (show _ < 1000 from by omega) ?_
        try refine R_top (y := nI _) (by assumption) ?_
        refine R_mk rfl rfl (Nat.le_of_ble_eq_true rfl) g1 g2 g3 (by rw [g1.1 12 _ (by omega), g1.1 13 _ (by omega)]; exact w6 s hs) (fun j hj q1 q2 => ?_) (fun L2 M2 e1 e2 e3 e4 => ?_)
        · rw [g1.1 12 _ (by omega)] at q1
          rw [g1.1 13 _ (by omega)] at q2
          exact ⟨hj, 0, Or.inl (Or.inl ⟨s, hs, q1, q2⟩)⟩
        · rw [g1.1 12 _ (by omega), g1.1 13 _ (by omega)] at e4
          refine R_iinc (lv' := [(2, _), (0, _), (1, _)]) rfl rfl (by exact nI_1 _) rfl ?_
          refine R_goto (pc' := 29) rfl rfl ?_
          refine nx L2 M2 e1 e2 (fun i hi q => e4 i hi ?_)
          obtain ⟨k, q, q5⟩ := q
          by_cases hks : k = s
          · subst hks
            exact Or.inr q5
          · exact Or.inl ⟨k, by omega, q5⟩
  -- no marks at first
  refine R_aload_n rfl rfl ?_
  refine R_iconst (y := nI 0) rfl (by decide) ?_
  refine R_put rfl rfl rfl ?_
  refine R_iconst (y := nI 0) rfl (by decide) ?_
  refine R_istore_n (lv' := [(2, _), (0, _), (1, _)]) rfl rfl ?_
  refine dn_up (P := fun s => WR (CalR (d + 1)) t_X9_reach 9 none Q 7 [(2, .int (nI s)), (0, .ref 0), (1, .int b)] [] (fil (up2 M 39 0 0) 37 s 0)) (N := 1500) ?_ ?_ 0 (Nat.zero_le _) |> fun h0 => by
    rw [fil_0] at h0
    exact h0
  · refine R_iload_n rfl rfl ?_
    refine R_sipush (y := nI 1500) rfl (by decide) ?_
    refine R_icmp (pc' := 27) rfl rfl (fun hc => ?_) (fun hc => ?_)
    · refine s3 _ ⟨fun k j hkj => ?_, List.nodup_nil, (fun i hi => by cases hi), rfl, (fun a i h => by simp at h), fun i hi => ?_⟩
      · unfold fil up2
        rw [if_neg (by omega), if_neg (by omega)]
      · show (if i < 1500 then (0 : Int32) else _) = _
        rw [if_pos hi]
        simp
    · exact (ge_yes hc).elim
  · intro s hs nx
    refine R_iload_n rfl rfl ?_
    refine R_sipush (y := nI 1500) rfl (by decide) ?_
    refine R_icmp (pc' := 27) rfl rfl (fun hc => ?_) (fun hc => ?_)
    · exact (ge_no hs (by omega) hc).elim
    · refine R_aload_n rfl rfl ?_
      refine R_getA rfl rfl (Or.inr rfl) ?_
      refine R_iload_n rfl rfl ?_
      refine R_iconst (y := nI 0) rfl (by decide) ?_
      refine R_bast rfl rfl rfl (show _ < 1500 from by omega) (by first | exact Or.inl rfl | exact Or.inr rfl | assumption) ?_
      refine R_iinc (lv' := [(2, _), (0, _), (1, _)]) rfl rfl (by exact nI_1 _) rfl ?_
      refine R_goto (pc' := 7) rfl rfl ?_
      rw [nI_0, fil_s]
      exact nx
