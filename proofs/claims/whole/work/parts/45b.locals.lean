/-! ===== locals: a walk that knows fewer of them is one that knows more ===== -/
def kdb : Lv → Bool
  | [] => true
  | q :: l => !(l.any (fun r => r.1 == q.1)) && kdb l
theorem kdb_lk : ∀ {l : Lv} {i : Nat} {v : Value}, kdb l = true → (i, v) ∈ l → l.lookup i = some v
  | [], _, _, _, h => by cases h
  | (a, w) :: l, i, v, hd, h => by
    simp only [kdb, Bool.and_eq_true, Bool.not_eq_true'] at hd
    rw [List.lookup_cons]
    rcases List.mem_cons.mp h with h1 | h1
    · cases h1
      simp
    · have hne : (i == a) = false := by
        apply Bool.eq_false_iff.mpr
        intro q
        have h2 : l.any (fun r => r.1 == a) = true := List.any_eq_true.mpr ⟨(i, v), h1, q⟩
        rw [hd.1] at h2
        cases h2
      rw [hne]
      exact kdb_lk hd.2 h1
theorem kdb_fil (f : Nat × Value → Bool) : ∀ {l : Lv}, kdb l = true → kdb (l.filter f) = true
  | [], _ => rfl
  | q :: l, h => by
    simp only [kdb, Bool.and_eq_true, Bool.not_eq_true'] at h
    rw [List.filter_cons]
    split
    · simp only [kdb, Bool.and_eq_true, Bool.not_eq_true']
      refine ⟨?_, kdb_fil f h.2⟩
      apply Bool.eq_false_iff.mpr
      intro q2
      obtain ⟨r, h1, h2⟩ := List.any_eq_true.mp q2
      have h3 : l.any (fun r => r.1 == q.1) = true := List.any_eq_true.mpr ⟨r, (List.mem_filter.mp h1).1, h2⟩
      rw [h.1] at h3
      cases h3
    · exact kdb_fil f h.2
theorem kdb_cons {i : Nat} {v : Value} {l : Lv} {f : Nat × Value → Bool} (hf : ∀ q, f q = true → q.1 ≠ i) (h : kdb l = true) : kdb ((i, v) :: l.filter f) = true := by
  simp only [kdb, Bool.and_eq_true, Bool.not_eq_true']
  refine ⟨?_, kdb_fil f h⟩
  apply Bool.eq_false_iff.mpr
  intro q
  obtain ⟨r, h1, h2⟩ := List.any_eq_true.mp q
  exact hf r (List.mem_filter.mp h1).2 (by simpa using h2)
/-- all that l knows, l' knows; no local twice -/
def lsb (l l' : Lv) : Prop := kdb l = true ∧ kdb l' = true ∧ ∀ q ∈ l, q ∈ l'
theorem lsb.lk {l l' : Lv} (h : lsb l l') {i : Nat} {v : Value} (hl : l.lookup i = some v) : l'.lookup i = some v := kdb_lk h.2.1 (h.2.2 _ (lk_mem hl))
theorem lsb.st {l l' : Lv} (h : lsb l l') (i : Nat) (v : Value) : lsb (lvs i v l) (lvs i v l') := by
  have hf : ∀ q : Nat × Value, (!(q.1 == i) && !(q.1 + 1 == i && q.2.category == 2)) = true → q.1 ≠ i := fun q hq e => by simp [e] at hq
  refine ⟨kdb_cons hf h.1, kdb_cons hf h.2.1, fun q hq => ?_⟩
  rcases List.mem_cons.mp hq with h1 | h1
  · rw [h1]
    exact List.mem_cons_self
  · have h2 := List.mem_filter.mp h1
    exact List.mem_cons_of_mem _ (List.mem_filter.mpr ⟨h.2.2 q h2.1, h2.2⟩)
theorem lsb.sl {l l' : Lv} (h : lsb l l') (i : Nat) (v : Value) : lsb (lvl i v l) (lvl i v l') := by
  have hf : ∀ q : Nat × Value, (!(q.1 == i) && (!(q.1 == i + 1) && !(q.1 + 1 == i && q.2.category == 2))) = true → q.1 ≠ i := fun q hq e => by simp [e] at hq
  refine ⟨kdb_cons hf h.1, kdb_cons hf h.2.1, fun q hq => ?_⟩
  rcases List.mem_cons.mp hq with h1 | h1
  · rw [h1]
    exact List.mem_cons_self
  · have h2 := List.mem_filter.mp h1
    exact List.mem_cons_of_mem _ (List.mem_filter.mpr ⟨h.2.2 q h2.1, h2.2⟩)
theorem lsb_pick {l l' : Lv} (ks : List Nat) (hp : lv_pick l' ks = l) (h1 : kdb l = true) (h2 : kdb l' = true) : lsb l l' := by
  refine ⟨h1, h2, fun q hq => ?_⟩
  rw [← hp] at hq
  obtain ⟨k, -, hk⟩ := List.mem_filterMap.mp hq
  exact List.mem_of_getElem? hk
set_option maxHeartbeats 4000000 in
theorem insR_lv {C : Rrel} {oc : Nat} {rt : Option FieldType} {Qr : Option Value → Mem → Prop} {K : Nat → Lv → List Value → Mem → Prop} {pc : Nat} {lv lv' : Lv} {st : List Value} {M : Mem} {i : Instr}
    (hK : ∀ pc lv lv' st M, lsb lv lv' → K pc lv st M → K pc lv' st M) (hs : lsb lv lv') (h : insR C oc rt Qr K pc lv st M i) : insR C oc rt Qr K pc lv' st M i := by
  cases i
  case iload_n i =>
    simp only [insR] at h ⊢
    split at h
    · rename_i x hk
      rw [hs.lk hk]
      exact hK _ _ _ _ _ hs h
    · exact h.elim
  case iload i =>
    simp only [insR] at h ⊢
    split at h
    · rename_i x hk
      rw [hs.lk hk]
      exact hK _ _ _ _ _ hs h
    · exact h.elim
  case lload_n i =>
    simp only [insR] at h ⊢
    split at h
    · rename_i x hk
      rw [hs.lk hk]
      exact hK _ _ _ _ _ hs h
    · exact h.elim
  case lload i =>
    simp only [insR] at h ⊢
    split at h
    · rename_i x hk
      rw [hs.lk hk]
      exact hK _ _ _ _ _ hs h
    · exact h.elim
  case aload_n i =>
    simp only [insR] at h ⊢
    split at h
    · rename_i x hk
      rw [hs.lk hk]
      exact hK _ _ _ _ _ hs h
    · exact h.elim
  case istore_n i =>
    simp only [insR] at h ⊢
    split at h <;> first
      | exact h.elim
      | exact hK _ _ _ _ _ (hs.st _ _) h
  case istore i =>
    simp only [insR] at h ⊢
    split at h <;> first
      | exact h.elim
      | exact hK _ _ _ _ _ (hs.st _ _) h
  case lstore_n i =>
    simp only [insR] at h ⊢
    split at h <;> first
      | exact h.elim
      | exact hK _ _ _ _ _ (hs.sl _ _) h
  case lstore i =>
    simp only [insR] at h ⊢
    split at h <;> first
      | exact h.elim
      | exact hK _ _ _ _ _ (hs.sl _ _) h
  case iinc i n =>
    simp only [insR] at h ⊢
    split at h
    · rename_i x hk
      rw [hs.lk hk]
      exact hK _ _ _ _ _ (hs.st _ _) h
    · exact h.elim
  case getfield i =>
    simp only [insR] at h ⊢
    split at h
    · split at h <;> first
        | exact h.elim
        | exact hK _ _ _ _ _ hs h
    · exact h.elim
  case putfield i =>
    simp only [insR] at h ⊢
    split at h
    · split at h <;> first
        | exact h.elim
        | exact hK _ _ _ _ _ hs h
        | exact ⟨h.1, hK _ _ _ _ _ hs h.2⟩
    · exact h.elim
  case iaload =>
    simp only [insR] at h ⊢
    split at h
    · split at h <;> first
        | exact h.elim
        | exact ⟨h.1, hK _ _ _ _ _ hs h.2⟩
    · exact h.elim
  case baload =>
    simp only [insR] at h ⊢
    split at h
    · split at h <;> first
        | exact h.elim
        | exact ⟨h.1, hK _ _ _ _ _ hs h.2⟩
    · exact h.elim
  case iastore =>
    simp only [insR] at h ⊢
    split at h
    · split at h <;> first
        | exact h.elim
        | exact ⟨h.1, hK _ _ _ _ _ hs h.2⟩
    · exact h.elim
  case bastore =>
    simp only [insR] at h ⊢
    split at h
    · split at h <;> first
        | exact h.elim
        | exact ⟨h.1, h.2.1, hK _ _ _ _ _ hs h.2.2⟩
    · exact h.elim
  case invokevirtual i =>
    simp only [insR] at h ⊢
    split at h
    · split at h
      · obtain ⟨h1, h2, h3, v, M1, h4, h5, h⟩ := h
        exact ⟨h1, h2, h3, v, M1, h4, h5, hK _ _ _ _ _ hs h⟩
      · exact h.elim
    · exact h.elim
  case invokestatic i =>
    simp only [insR] at h ⊢
    split at h
    · split at h
      · obtain ⟨h1, h2, v, M1, h4, h5, h⟩ := h
        exact ⟨h1, h2, v, M1, h4, h5, hK _ _ _ _ _ hs h⟩
      · exact h.elim
    · exact h.elim
  all_goals first
    | exact False.elim h
    | exact hK _ _ _ _ _ hs h
    | (simp only [insR] at h ⊢
       split at h <;> first
        | exact h.elim
        | exact h
        | exact hK _ _ _ _ _ hs h
        | exact ⟨h.1, hK _ _ _ _ _ hs h.2⟩
        | exact ⟨fun q => hK _ _ _ _ _ hs (h.1 q), fun q => hK _ _ _ _ _ hs (h.2 q)⟩)
theorem wpR_lv {C : Rrel} {t : List (Nat × Instr × Nat)} {oc : Nat} {rt : Option FieldType} {Qr : Option Value → Mem → Prop} :
    ∀ (n pc : Nat) (lv lv' : Lv) (st : List Value) (M : Mem), lsb lv lv' → wpR C t oc rt Qr n pc lv st M → wpR C t oc rt Qr n pc lv' st M
  | 0, _, _, _, _, _, _, h => h
  | n + 1, pc, lv, lv', st, M, hs, h => by
    simp only [wpR] at h ⊢
    split at h
    · exact insR_lv (fun pc lv lv' st M hs h => wpR_lv n pc lv lv' st M hs h) hs h
    · exact h.elim
/-- go on with fewer locals: lv is made of places ks of lv' -/
theorem R_sub {C : Rrel} {t : List (Nat × Instr × Nat)} {oc : Nat} {rt : Option FieldType} {Qr : Option Value → Mem → Prop} {pc : Nat} {lv lv' : Lv} {st : List Value} {M : Mem} (ks : List Nat) (hp : lv_pick lv' ks = lv) (h1 : kdb lv = true) (h2 : kdb lv' = true) (k : WR C t oc rt Qr pc lv st M) : WR C t oc rt Qr pc lv' st M := by
  obtain ⟨n, k⟩ := k
  exact ⟨n, wpR_lv n _ _ _ _ _ (lsb_pick ks hp h1 h2) k⟩
set_option maxHeartbeats 4000000 in
theorem ins_lv {z b L : Nat} {xs : Nat → Int32} {C : Crel} {oc : Nat} {rt : Option FieldType} {Qr : Option Value → Hp → Prop} {K : Nat → Lv → List Value → Hp → Prop} {pc : Nat} {lv lv' : Lv} {st : List Value} {σ : Hp} {i : Instr}
    (hK : ∀ pc lv lv' st σ, lsb lv lv' → K pc lv st σ → K pc lv' st σ) (hs : lsb lv lv') (h : ins z b L xs C oc rt Qr K pc lv st σ i) : ins z b L xs C oc rt Qr K pc lv' st σ i := by
  cases i
  case iload_n i =>
    simp only [ins] at h ⊢
    split at h
    · rename_i x hk
      rw [hs.lk hk]
      exact hK _ _ _ _ _ hs h
    · exact h.elim
  case iload i =>
    simp only [ins] at h ⊢
    split at h
    · rename_i x hk
      rw [hs.lk hk]
      exact hK _ _ _ _ _ hs h
    · exact h.elim
  case lload_n i =>
    simp only [ins] at h ⊢
    split at h
    · rename_i x hk
      rw [hs.lk hk]
      exact hK _ _ _ _ _ hs h
    · exact h.elim
  case lload i =>
    simp only [ins] at h ⊢
    split at h
    · rename_i x hk
      rw [hs.lk hk]
      exact hK _ _ _ _ _ hs h
    · exact h.elim
  case aload_n i =>
    simp only [ins] at h ⊢
    split at h
    · rename_i x hk
      rw [hs.lk hk]
      exact hK _ _ _ _ _ hs h
    · rename_i hk
      rw [hs.lk hk]
      exact hK _ _ _ _ _ hs h
    · exact h.elim
  case aload i =>
    simp only [ins] at h ⊢
    split at h
    · rename_i x hk
      rw [hs.lk hk]
      exact hK _ _ _ _ _ hs h
    · rename_i hk
      rw [hs.lk hk]
      exact hK _ _ _ _ _ hs h
    · exact h.elim
  case istore_n i =>
    simp only [ins] at h ⊢
    split at h <;> first
      | exact h.elim
      | exact hK _ _ _ _ _ (hs.st _ _) h
  case istore i =>
    simp only [ins] at h ⊢
    split at h <;> first
      | exact h.elim
      | exact hK _ _ _ _ _ (hs.st _ _) h
  case astore_n i =>
    simp only [ins] at h ⊢
    split at h <;> first
      | exact h.elim
      | exact hK _ _ _ _ _ (hs.st _ _) h
  case astore i =>
    simp only [ins] at h ⊢
    split at h <;> first
      | exact h.elim
      | exact hK _ _ _ _ _ (hs.st _ _) h
  case lstore_n i =>
    simp only [ins] at h ⊢
    split at h <;> first
      | exact h.elim
      | exact hK _ _ _ _ _ (hs.sl _ _) h
  case lstore i =>
    simp only [ins] at h ⊢
    split at h <;> first
      | exact h.elim
      | exact hK _ _ _ _ _ (hs.sl _ _) h
  case iinc i n =>
    simp only [ins] at h ⊢
    split at h
    · rename_i x hk
      rw [hs.lk hk]
      exact hK _ _ _ _ _ (hs.st _ _) h
    · exact h.elim
  case getfield i =>
    simp only [ins] at h ⊢
    split at h
    · obtain ⟨fs, v, h1, h2, h⟩ := h
      exact ⟨fs, v, h1, h2, hK _ _ _ _ _ hs h⟩
    · exact h.elim
  case putfield i =>
    simp only [ins] at h ⊢
    split at h
    · obtain ⟨fs, h1, h2, h3, h⟩ := h
      exact ⟨fs, h1, h2, h3, hK _ _ _ _ _ hs h⟩
    · exact h.elim
  case iaload =>
    simp only [ins] at h ⊢
    split at h
    · obtain ⟨n, f, h1, h2, h⟩ := h
      exact ⟨n, f, h1, h2, hK _ _ _ _ _ hs h⟩
    · exact h.elim
  case laload =>
    simp only [ins] at h ⊢
    split at h
    · obtain ⟨n, f, h1, h2, h⟩ := h
      exact ⟨n, f, h1, h2, hK _ _ _ _ _ hs h⟩
    · exact h.elim
  case baload =>
    simp only [ins] at h ⊢
    split at h
    · obtain ⟨n, f, h1, h2, h⟩ := h
      exact ⟨n, f, h1, h2, hK _ _ _ _ _ hs h⟩
    · exact h.elim
  case aaload =>
    simp only [ins] at h ⊢
    split at h
    · obtain ⟨t, n, f, h1, h2, h3, h⟩ := h
      exact ⟨t, n, f, h1, h2, h3, hK _ _ _ _ _ hs h⟩
    · exact h.elim
  case iastore =>
    simp only [ins] at h ⊢
    split at h
    · obtain ⟨n, f, h1, h2, h3, h⟩ := h
      exact ⟨n, f, h1, h2, h3, hK _ _ _ _ _ hs h⟩
    · exact h.elim
  case lastore =>
    simp only [ins] at h ⊢
    split at h
    · obtain ⟨n, f, h1, h2, h⟩ := h
      exact ⟨n, f, h1, h2, hK _ _ _ _ _ hs h⟩
    · exact h.elim
  case arraylength =>
    simp only [ins] at h ⊢
    split at h
    · obtain ⟨t, n, x, h1, h2, h⟩ := h
      exact ⟨t, n, x, h1, h2, hK _ _ _ _ _ hs h⟩
    · exact h.elim
  case anewarray i =>
    simp only [ins] at h ⊢
    split at h
    · obtain ⟨h1, h2, h⟩ := h
      exact ⟨h1, h2, hK _ _ _ _ _ hs h⟩
    · exact h.elim
  case bastore =>
    simp only [ins] at h ⊢
    split at h
    · obtain ⟨n, f, h1, ⟨h2, h⟩ | ⟨h2, h⟩⟩ := h
      · exact ⟨n, f, h1, Or.inl ⟨h2, hK _ _ _ _ _ hs h⟩⟩
      · exact ⟨n, f, h1, Or.inr ⟨h2, hK _ _ _ _ _ hs h⟩⟩
    · exact h.elim
  case aastore =>
    simp only [ins] at h ⊢
    split at h
    · obtain ⟨t, n, f, fs, h1, h2, h3, h⟩ := h
      exact ⟨t, n, f, fs, h1, h2, h3, hK _ _ _ _ _ hs h⟩
    · obtain ⟨t, n, f, h1, h2, h3, h⟩ := h
      exact ⟨t, n, f, h1, h2, h3, hK _ _ _ _ _ hs h⟩
    · exact h.elim
  case newarray t =>
    simp only [ins] at h ⊢
    split at h
    · obtain ⟨h1, h2, h⟩ := h
      refine ⟨h1, h2, ?_⟩
      cases t <;> first
        | exact h.elim
        | exact hK _ _ _ _ _ hs h
    · exact h.elim
  case if_acmp c f =>
    simp only [ins] at h ⊢
    split at h
    · obtain ⟨rx, ry, h1, h2, h⟩ := h
      refine ⟨rx, ry, h1, h2, ?_⟩
      cases c <;> exact ⟨fun q => hK _ _ _ _ _ hs (h.1 q), fun q => hK _ _ _ _ _ hs (h.2 q)⟩
    · exact h.elim
  case invokevirtual i =>
    simp only [ins] at h ⊢
    split at h
    · split at h
      · obtain ⟨a, fs, v, σ1, h1, h2, h3, h4, h⟩ := h
        exact ⟨a, fs, v, σ1, h1, h2, h3, h4, hK _ _ _ _ _ hs h⟩
      · exact h.elim
    · exact h.elim
  case invokestatic i =>
    simp only [ins] at h ⊢
    split at h
    · split at h
      · obtain ⟨h1, h2, h3, h4, ⟨n0, n1, f, g, g0, g1, g2, g3, g4, h⟩ | ⟨n0, n1, f, g, g0, g1, g2, g3, h⟩⟩ := h
        · exact ⟨h1, h2, h3, h4, Or.inl ⟨n0, n1, f, g, g0, g1, g2, g3, g4, hK _ _ _ _ _ hs h⟩⟩
        · exact ⟨h1, h2, h3, h4, Or.inr ⟨n0, n1, f, g, g0, g1, g2, g3, hK _ _ _ _ _ hs h⟩⟩
      · exact h.elim
    · split at h
      · exact ⟨h.1, hK _ _ _ _ _ hs h.2⟩
      · exact h.elim
    · split at h
      · exact ⟨h.1, hK _ _ _ _ _ hs h.2⟩
      · exact h.elim
    · obtain ⟨hk, h⟩ := h
      refine ⟨hk, ?_⟩
      split at h
      · obtain ⟨v, σ1, h1, h2, h3, h⟩ := h
        exact ⟨v, σ1, h1, h2, h3, hK _ _ _ _ _ hs h⟩
      · exact h.elim
    · exact h.elim
  case invokespecial i =>
    simp only [ins] at h ⊢
    split at h
    · split at h
      · exact ⟨h.1, hK _ _ _ _ _ hs h.2⟩
      · exact h.elim
    · obtain ⟨hk, h⟩ := h
      refine ⟨hk, ?_⟩
      split at h
      · obtain ⟨a, v, σ1, h1, h2, h3, h⟩ := h
        exact ⟨a, v, σ1, h1, h2, h3, hK _ _ _ _ _ hs h⟩
      · exact h.elim
    · exact h.elim
  all_goals first
    | exact False.elim h
    | exact hK _ _ _ _ _ hs h
    | (simp only [ins] at h ⊢
       split at h <;> first
        | exact h.elim
        | exact h
        | exact hK _ _ _ _ _ hs h
        | exact ⟨h.1, hK _ _ _ _ _ hs h.2⟩
        | exact ⟨h.1, h.2.1, hK _ _ _ _ _ hs h.2.2⟩
        | exact ⟨fun q => hK _ _ _ _ _ hs (h.1 q), fun q => hK _ _ _ _ _ hs (h.2 q)⟩)
theorem wp_lv {z b L : Nat} {xs : Nat → Int32} {C : Crel} {t : List (Nat × Instr × Nat)} {oc : Nat} {rt : Option FieldType} {Qr : Option Value → Hp → Prop} :
    ∀ (n pc : Nat) (lv lv' : Lv) (st : List Value) (σ : Hp), lsb lv lv' → wp z b L xs C t oc rt Qr n pc lv st σ → wp z b L xs C t oc rt Qr n pc lv' st σ
  | 0, _, _, _, _, _, _, h => h
  | n + 1, pc, lv, lv', st, σ, hs, h => by
    simp only [wp] at h ⊢
    split at h
    · exact ins_lv (fun pc lv lv' st σ hs h => wp_lv n pc lv lv' st σ hs h) hs h
    · exact h.elim
