/-! ===== a walk comes to one end ===== -/
set_option maxHeartbeats 4000000 in
theorem ins_ex {z b L : Nat} {xs : Nat → Int32} {C : Crel} {oc : Nat} {rt : Option FieldType} {Qr : Option Value → Hp → Prop} {K : Nat → Lv → List Value → Hp → Prop} {Kx : Option Value → Hp → Nat → Lv → List Value → Hp → Prop} {pc : Nat} {lv : Lv} {st : List Value} {σ : Hp} {i : Instr}
    (hK : ∀ pc lv st σ', K pc lv st σ' → ∃ v σ1, Qr v σ1 ∧ Kx v σ1 pc lv st σ')
    (h : ins z b L xs C oc rt Qr K pc lv st σ i) : ∃ v σ1, Qr v σ1 ∧ ins z b L xs C oc rt (fun v' σ' => v' = v ∧ σ' = σ1) (Kx v σ1) pc lv st σ i := by
  cases i
  case getfield i =>
    simp only [ins] at h ⊢
    split at h
    · obtain ⟨fs, v, h1, h2, h⟩ := h
      obtain ⟨v9, σ9, q9, k9⟩ := hK _ _ _ _ h
      exact ⟨v9, σ9, q9, fs, v, h1, h2, k9⟩
    · exact h.elim
  case putfield i =>
    simp only [ins] at h ⊢
    split at h
    · obtain ⟨fs, h1, h2, h3, h⟩ := h
      obtain ⟨v9, σ9, q9, k9⟩ := hK _ _ _ _ h
      exact ⟨v9, σ9, q9, fs, h1, h2, h3, k9⟩
    · exact h.elim
  case iaload =>
    simp only [ins] at h ⊢
    split at h
    · obtain ⟨n, f, h1, h2, h⟩ := h
      obtain ⟨v9, σ9, q9, k9⟩ := hK _ _ _ _ h
      exact ⟨v9, σ9, q9, n, f, h1, h2, k9⟩
    · exact h.elim
  case laload =>
    simp only [ins] at h ⊢
    split at h
    · obtain ⟨n, f, h1, h2, h⟩ := h
      obtain ⟨v9, σ9, q9, k9⟩ := hK _ _ _ _ h
      exact ⟨v9, σ9, q9, n, f, h1, h2, k9⟩
    · exact h.elim
  case baload =>
    simp only [ins] at h ⊢
    split at h
    · obtain ⟨n, f, h1, h2, h⟩ := h
      obtain ⟨v9, σ9, q9, k9⟩ := hK _ _ _ _ h
      exact ⟨v9, σ9, q9, n, f, h1, h2, k9⟩
    · exact h.elim
  case aaload =>
    simp only [ins] at h ⊢
    split at h
    · obtain ⟨t, n, f, h1, h2, h3, h⟩ := h
      obtain ⟨v9, σ9, q9, k9⟩ := hK _ _ _ _ h
      exact ⟨v9, σ9, q9, t, n, f, h1, h2, h3, k9⟩
    · exact h.elim
  case iastore =>
    simp only [ins] at h ⊢
    split at h
    · obtain ⟨n, f, h1, h2, h3, h⟩ := h
      obtain ⟨v9, σ9, q9, k9⟩ := hK _ _ _ _ h
      exact ⟨v9, σ9, q9, n, f, h1, h2, h3, k9⟩
    · exact h.elim
  case lastore =>
    simp only [ins] at h ⊢
    split at h
    · obtain ⟨n, f, h1, h2, h⟩ := h
      obtain ⟨v9, σ9, q9, k9⟩ := hK _ _ _ _ h
      exact ⟨v9, σ9, q9, n, f, h1, h2, k9⟩
    · exact h.elim
  case bastore =>
    simp only [ins] at h ⊢
    split at h
    · obtain ⟨n, f, h1, ⟨h2, h⟩ | ⟨h2, h⟩⟩ := h
      · obtain ⟨v9, σ9, q9, k9⟩ := hK _ _ _ _ h
        exact ⟨v9, σ9, q9, n, f, h1, Or.inl ⟨h2, k9⟩⟩
      · obtain ⟨v9, σ9, q9, k9⟩ := hK _ _ _ _ h
        exact ⟨v9, σ9, q9, n, f, h1, Or.inr ⟨h2, k9⟩⟩
    · exact h.elim
  case aastore =>
    simp only [ins] at h ⊢
    split at h
    · obtain ⟨t, n, f, fs, h1, h2, h3, h⟩ := h
      obtain ⟨v9, σ9, q9, k9⟩ := hK _ _ _ _ h
      exact ⟨v9, σ9, q9, t, n, f, fs, h1, h2, h3, k9⟩
    · obtain ⟨t, n, f, h1, h2, h3, h⟩ := h
      obtain ⟨v9, σ9, q9, k9⟩ := hK _ _ _ _ h
      exact ⟨v9, σ9, q9, t, n, f, h1, h2, h3, k9⟩
    · exact h.elim
  case arraylength =>
    simp only [ins] at h ⊢
    split at h
    · obtain ⟨t, n, x, h1, h2, h⟩ := h
      obtain ⟨v9, σ9, q9, k9⟩ := hK _ _ _ _ h
      exact ⟨v9, σ9, q9, t, n, x, h1, h2, k9⟩
    · exact h.elim
  case newarray t =>
    simp only [ins] at h ⊢
    split at h
    · obtain ⟨h1, h2, h⟩ := h
      cases t <;> first
        | exact h.elim
        | (obtain ⟨v9, σ9, q9, k9⟩ := hK _ _ _ _ h
           exact ⟨v9, σ9, q9, h1, h2, k9⟩)
    · exact h.elim
  case anewarray i =>
    simp only [ins] at h ⊢
    split at h
    · obtain ⟨h1, h2, h⟩ := h
      obtain ⟨v9, σ9, q9, k9⟩ := hK _ _ _ _ h
      exact ⟨v9, σ9, q9, h1, h2, k9⟩
    · exact h.elim
  case new i =>
    simp only [ins] at h ⊢
    split at h
    · obtain ⟨v9, σ9, q9, k9⟩ := hK _ _ _ _ h
      exact ⟨v9, σ9, q9, k9⟩
    · exact h.elim
  case if_acmp c f =>
    simp only [ins] at h ⊢
    split at h
    · obtain ⟨rx, ry, h1, h2, h⟩ := h
      cases c with
      | eq =>
        by_cases q : rx = ry
        · obtain ⟨v9, σ9, q9, k9⟩ := hK _ _ _ _ (h.1 q)
          exact ⟨v9, σ9, q9, rx, ry, h1, h2, fun _ => k9, fun q2 => absurd q q2⟩
        · obtain ⟨v9, σ9, q9, k9⟩ := hK _ _ _ _ (h.2 q)
          exact ⟨v9, σ9, q9, rx, ry, h1, h2, fun q2 => absurd q2 q, fun _ => k9⟩
      | ne =>
        by_cases q : rx = ry
        · obtain ⟨v9, σ9, q9, k9⟩ := hK _ _ _ _ (h.2 q)
          exact ⟨v9, σ9, q9, rx, ry, h1, h2, fun q2 => absurd q q2, fun _ => k9⟩
        · obtain ⟨v9, σ9, q9, k9⟩ := hK _ _ _ _ (h.1 q)
          exact ⟨v9, σ9, q9, rx, ry, h1, h2, fun _ => k9, fun q2 => absurd q2 q⟩
    · exact h.elim
  case ifCond c f =>
    simp only [ins] at h ⊢
    split at h
    · rename_i x r
      by_cases q : icc c x 0
      · obtain ⟨v9, σ9, q9, k9⟩ := hK _ _ _ _ (h.1 q)
        exact ⟨v9, σ9, q9, fun _ => k9, fun q2 => absurd q q2⟩
      · obtain ⟨v9, σ9, q9, k9⟩ := hK _ _ _ _ (h.2 q)
        exact ⟨v9, σ9, q9, fun q2 => absurd q2 q, fun _ => k9⟩
    · exact h.elim
  case if_icmp c f =>
    simp only [ins] at h ⊢
    split at h
    · rename_i y x r
      by_cases q : icc c x y
      · obtain ⟨v9, σ9, q9, k9⟩ := hK _ _ _ _ (h.1 q)
        exact ⟨v9, σ9, q9, fun _ => k9, fun q2 => absurd q q2⟩
      · obtain ⟨v9, σ9, q9, k9⟩ := hK _ _ _ _ (h.2 q)
        exact ⟨v9, σ9, q9, fun q2 => absurd q2 q, fun _ => k9⟩
    · exact h.elim
  case idiv =>
    simp only [ins] at h ⊢
    split at h
    · obtain ⟨h1, h⟩ := h
      obtain ⟨v9, σ9, q9, k9⟩ := hK _ _ _ _ h
      exact ⟨v9, σ9, q9, h1, k9⟩
    · exact h.elim
  case ldiv =>
    simp only [ins] at h ⊢
    split at h
    · obtain ⟨h1, h⟩ := h
      obtain ⟨v9, σ9, q9, k9⟩ := hK _ _ _ _ h
      exact ⟨v9, σ9, q9, h1, k9⟩
    · exact h.elim
  case lrem =>
    simp only [ins] at h ⊢
    split at h
    · obtain ⟨h1, h⟩ := h
      obtain ⟨v9, σ9, q9, k9⟩ := hK _ _ _ _ h
      exact ⟨v9, σ9, q9, h1, k9⟩
    · exact h.elim
  case dup =>
    simp only [ins] at h ⊢
    split at h
    · obtain ⟨h1, h⟩ := h
      obtain ⟨v9, σ9, q9, k9⟩ := hK _ _ _ _ h
      exact ⟨v9, σ9, q9, h1, k9⟩
    · exact h.elim
  case pop =>
    simp only [ins] at h ⊢
    split at h
    · obtain ⟨h1, h⟩ := h
      obtain ⟨v9, σ9, q9, k9⟩ := hK _ _ _ _ h
      exact ⟨v9, σ9, q9, h1, k9⟩
    · exact h.elim
  case dup2 =>
    simp only [ins] at h ⊢
    split at h
    · obtain ⟨h1, h2, h⟩ := h
      obtain ⟨v9, σ9, q9, k9⟩ := hK _ _ _ _ h
      exact ⟨v9, σ9, q9, h1, h2, k9⟩
    · exact h.elim
  case ireturn =>
    simp only [ins] at h ⊢
    split at h
    · exact ⟨_, _, h.2, h.1, rfl, rfl⟩
    · exact h.elim
  case lreturn =>
    simp only [ins] at h ⊢
    split at h
    · exact ⟨_, _, h, rfl, rfl⟩
    · exact h.elim
  case areturn =>
    simp only [ins] at h ⊢
    split at h
    · exact ⟨_, _, h, rfl, rfl⟩
    · exact ⟨_, _, h, rfl, rfl⟩
    · exact h.elim
  case return_ =>
    simp only [ins] at h ⊢
    split at h
    · exact ⟨_, _, h, rfl, rfl⟩
    · exact h.elim
  case invokevirtual i =>
    simp only [ins] at h ⊢
    split at h
    · split at h
      · obtain ⟨a, fs, v, σ1, h1, h2, h3, h4, h⟩ := h
        obtain ⟨v9, σ9, q9, k9⟩ := hK _ _ _ _ h
        exact ⟨v9, σ9, q9, a, fs, v, σ1, h1, h2, h3, h4, k9⟩
      · exact h.elim
    · exact h.elim
  case invokestatic i =>
    simp only [ins] at h ⊢
    split at h
    · split at h
      · obtain ⟨h1, h2, h3, h4, ⟨n0, n1, f, g, g0, g1, g2, g3, g4, h⟩ | ⟨n0, n1, f, g, g0, g1, g2, g3, h⟩⟩ := h
        · obtain ⟨v9, σ9, q9, k9⟩ := hK _ _ _ _ h
          exact ⟨v9, σ9, q9, h1, h2, h3, h4, Or.inl ⟨n0, n1, f, g, g0, g1, g2, g3, g4, k9⟩⟩
        · obtain ⟨v9, σ9, q9, k9⟩ := hK _ _ _ _ h
          exact ⟨v9, σ9, q9, h1, h2, h3, h4, Or.inr ⟨n0, n1, f, g, g0, g1, g2, g3, k9⟩⟩
      · exact h.elim
    · split at h
      · obtain ⟨v9, σ9, q9, k9⟩ := hK _ _ _ _ h.2
        exact ⟨v9, σ9, q9, h.1, k9⟩
      · exact h.elim
    · split at h
      · obtain ⟨v9, σ9, q9, k9⟩ := hK _ _ _ _ h.2
        exact ⟨v9, σ9, q9, h.1, k9⟩
      · exact h.elim
    · obtain ⟨hk, h⟩ := h
      split at h
      · obtain ⟨v, σ1, h1, h2, h3, h⟩ := h
        obtain ⟨v9, σ9, q9, k9⟩ := hK _ _ _ _ h
        exact ⟨v9, σ9, q9, hk, v, σ1, h1, h2, h3, k9⟩
      · exact h.elim
    · exact h.elim
  case invokespecial i =>
    simp only [ins] at h ⊢
    split at h
    · split at h
      · obtain ⟨v9, σ9, q9, k9⟩ := hK _ _ _ _ h.2
        exact ⟨v9, σ9, q9, h.1, k9⟩
      · exact h.elim
    · obtain ⟨hk, h⟩ := h
      split at h
      · obtain ⟨a, v, σ1, h1, h2, h3, h⟩ := h
        obtain ⟨v9, σ9, q9, k9⟩ := hK _ _ _ _ h
        exact ⟨v9, σ9, q9, hk, a, v, σ1, h1, h2, h3, k9⟩
      · exact h.elim
    · exact h.elim
  all_goals first
    | exact False.elim h
    | exact hK _ _ _ _ h
    | (simp only [ins] at h ⊢
       split at h <;> first
        | exact h.elim
        | exact hK _ _ _ _ h)
theorem wp_ex {z b L : Nat} {xs : Nat → Int32} {C : Crel} {t : List (Nat × Instr × Nat)} {oc : Nat} {rt : Option FieldType} {Qr : Option Value → Hp → Prop} :
    ∀ (n pc : Nat) (lv : Lv) (st : List Value) (σ : Hp), wp z b L xs C t oc rt Qr n pc lv st σ → ∃ v σ1, Qr v σ1 ∧ wp z b L xs C t oc rt (fun v' σ' => v' = v ∧ σ' = σ1) n pc lv st σ
  | 0, _, _, _, _, h => h.elim
  | n + 1, pc, lv, st, σ, h => by
    simp only [wp] at h ⊢
    split at h
    · exact ins_ex (Kx := fun v σ1 => wp z b L xs C t oc rt (fun v' σ' => v' = v ∧ σ' = σ1) n) (fun pc lv st σ' h => wp_ex n pc lv st σ' h) h
    · exact h.elim
