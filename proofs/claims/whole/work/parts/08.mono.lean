/-! ===== what the engine makes stays ===== -/
theorem ins_gw {z b L : Nat} {xs : Nat → Int32} {C : Crel} {oc : Nat} {rt : Option FieldType} {Qr : Option Value → Hp → Prop} {K : Nat → Lv → List Value → Hp → Prop} {pc : Nat} {lv : Lv} {st : List Value} {σ : Hp} {i : Instr} {G : Hp → Prop}
    (hC : ∀ j av σ v σ1, C j av σ v σ1 → gw σ σ1) (hK : ∀ pc lv st σ', K pc lv st σ' → G σ') (hG : ∀ σ σ', gw σ σ' → G σ' → G σ) (hQ : ∀ v σ', Qr v σ' → G σ')
    (h : ins z b L xs C oc rt Qr K pc lv st σ i) : G σ := by
  cases i
  case getfield i =>
    simp only [ins] at h
    split at h
    · obtain ⟨fs, v, -, -, h⟩ := h
      exact hK _ _ _ _ h
    · exact h.elim
  case putfield i =>
    simp only [ins] at h
    split at h
    · obtain ⟨fs, hc, hk, -, h⟩ := h
      exact hG _ _ (by exact gw_upc (cel_own hc (cel_ge hc (fun _ _ q => by cases q))) rfl) (hK _ _ _ _ h)
    · exact h.elim
  case iaload =>
    simp only [ins] at h
    split at h
    · obtain ⟨n, f, -, -, h⟩ := h
      exact hK _ _ _ _ h
    · exact h.elim
  case laload =>
    simp only [ins] at h
    split at h
    · obtain ⟨n, f, -, -, h⟩ := h
      exact hK _ _ _ _ h
    · exact h.elim
  case baload =>
    simp only [ins] at h
    split at h
    · obtain ⟨n, f, -, -, h⟩ := h
      exact hK _ _ _ _ h
    · exact h.elim
  case aaload =>
    simp only [ins] at h
    split at h
    · obtain ⟨t, n, f, -, -, -, h⟩ := h
      exact hK _ _ _ _ h
    · exact h.elim
  case iastore =>
    simp only [ins] at h
    split at h
    · obtain ⟨n, f, hc, ha, -, h⟩ := h
      exact hG _ _ (by exact gw_upc (cel_own hc ha) rfl) (hK _ _ _ _ h)
    · exact h.elim
  case lastore =>
    simp only [ins] at h
    split at h
    · obtain ⟨n, f, hc, -, h⟩ := h
      exact hG _ _ (by exact gw_upc (cel_own hc (cel_ge hc (fun _ _ q => by cases q))) rfl) (hK _ _ _ _ h)
    · exact h.elim
  case bastore =>
    simp only [ins] at h
    split at h
    · obtain ⟨n, f, -, ⟨hc, h⟩ | ⟨hc, h⟩⟩ := h
      · exact hG _ _ (by exact gw_upc (cel_own hc (cel_ge hc (fun _ _ q => by cases q))) rfl) (hK _ _ _ _ h)
      · exact hG _ _ (by exact gw_upc (cel_own hc (cel_ge hc (fun _ _ q => by cases q))) rfl) (hK _ _ _ _ h)
    · exact h.elim
  case aastore =>
    simp only [ins] at h
    split at h
    · obtain ⟨t, n, f, fs, hc, -, -, h⟩ := h
      exact hG _ _ (by exact gw_upc (cel_own hc (cel_ge hc (fun _ _ q => by cases q))) rfl) (hK _ _ _ _ h)
    · obtain ⟨t, n, f, hc, -, -, h⟩ := h
      exact hG _ _ (by exact gw_upc (cel_own hc (cel_ge hc (fun _ _ q => by cases q))) rfl) (hK _ _ _ _ h)
    · exact h.elim
  case arraylength =>
    simp only [ins] at h
    split at h
    · obtain ⟨t, n, x, -, -, h⟩ := h
      exact hK _ _ _ _ h
    · exact h.elim
  case newarray t =>
    simp only [ins] at h
    split at h
    · obtain ⟨-, -, h⟩ := h
      cases t <;> first | exact h.elim | exact hG _ _ (gw_app _ _) (hK _ _ _ _ h)
    · exact h.elim
  case anewarray i =>
    simp only [ins] at h
    split at h
    · obtain ⟨-, -, h⟩ := h
      exact hG _ _ (gw_app _ _) (hK _ _ _ _ h)
    · exact h.elim
  case new i =>
    simp only [ins] at h
    split at h
    · exact hG _ _ (gw_app _ _) (hK _ _ _ _ h)
    · exact h.elim
  case if_acmp c f =>
    simp only [ins] at h
    split at h
    · obtain ⟨rx, ry, -, -, h⟩ := h
      split at h
      · exact (Classical.em (rx = ry)).elim (fun q => hK _ _ _ _ (h.1 q)) (fun q => hK _ _ _ _ (h.2 q))
      · exact (Classical.em (rx = ry)).elim (fun q => hK _ _ _ _ (h.2 q)) (fun q => hK _ _ _ _ (h.1 q))
    · exact h.elim
  case ifCond c f =>
    simp only [ins] at h
    split at h
    · exact (Classical.em (icc c _ 0)).elim (fun q => hK _ _ _ _ (h.1 q)) (fun q => hK _ _ _ _ (h.2 q))
    · exact h.elim
  case if_icmp c f =>
    simp only [ins] at h
    split at h
    · exact (Classical.em (icc c _ _)).elim (fun q => hK _ _ _ _ (h.1 q)) (fun q => hK _ _ _ _ (h.2 q))
    · exact h.elim
  case invokevirtual i =>
    simp only [ins] at h
    split at h
    · split at h
      · obtain ⟨a, fs, v, σ1, -, -, -, hc, h⟩ := h
        exact hG _ _ (hC _ _ _ _ _ hc) (hK _ _ _ _ h)
      · exact h.elim
    · exact h.elim
  case invokestatic i =>
    simp only [ins] at h
    split at h
    · split at h
      · obtain ⟨-, -, -, -, ⟨n0, n1, f, g, h0, h1, -, -, -, h⟩ | ⟨n0, n1, f, g, h0, h1, -, -, h⟩⟩ := h
        · exact hG _ _ (by exact gw_upc (cel_own h1 (cel_ge h1 (fun _ _ q => by cases q))) rfl) (hK _ _ _ _ h)
        · exact hG _ _ (by exact gw_upc (cel_own h1 (cel_ge h1 (fun _ _ q => by cases q))) rfl) (hK _ _ _ _ h)
      · exact h.elim
    · split at h
      · exact hK _ _ _ _ h.2
      · exact h.elim
    · split at h
      · exact hK _ _ _ _ h.2
      · exact h.elim
    · obtain ⟨-, h⟩ := h
      split at h
      · obtain ⟨v, σ1, -, -, hc, h⟩ := h
        exact hG _ _ (hC _ _ _ _ _ hc) (hK _ _ _ _ h)
      · exact h.elim
    · exact h.elim
  case invokespecial i =>
    simp only [ins] at h
    split at h
    · split at h
      · exact hK _ _ _ _ h.2
      · exact h.elim
    · obtain ⟨-, h⟩ := h
      split at h
      · obtain ⟨a, v, σ1, -, -, hc, h⟩ := h
        exact hG _ _ (hC _ _ _ _ _ hc) (hK _ _ _ _ h)
      · exact h.elim
    · exact h.elim
  all_goals first
    | exact False.elim h
    | exact hK _ _ _ _ h
    | (simp only [ins] at h
       split at h <;> first
        | exact h.elim
        | exact hK _ _ _ _ h
        | exact hK _ _ _ _ h.2
        | exact hK _ _ _ _ h.2.2
        | exact hQ _ _ h
        | exact hQ _ _ h.2)
theorem wp_gw {z b L : Nat} {xs : Nat → Int32} {C : Crel} {t : List (Nat × Instr × Nat)} {oc : Nat} {rt : Option FieldType} {Qr : Option Value → Hp → Prop} (hC : ∀ j av σ v σ1, C j av σ v σ1 → gw σ σ1) :
    ∀ (n pc : Nat) (lv : Lv) (st : List Value) (σ : Hp), wp z b L xs C t oc rt Qr n pc lv st σ → ∃ v σ1, Qr v σ1 ∧ gw σ σ1
  | 0, _, _, _, _, h => h.elim
  | n + 1, pc, lv, st, σ, h => by
    simp only [wp] at h
    split at h
    · exact ins_gw (G := fun σ => ∃ v σ1, Qr v σ1 ∧ gw σ σ1) hC (fun pc lv st σ' h => wp_gw hC n pc lv st σ' h) (fun σ σ' g ⟨v, σ1, h1, h2⟩ => ⟨v, σ1, h1, g.tr h2⟩) (fun v σ' h => ⟨v, σ', h, gw.rf _⟩) h
    · exact h.elim
theorem Cal_gw {z b L : Nat} {xs : Nat → Int32} : ∀ (d j : Nat) (av : List Value) (σ : Hp) (v : Option Value) (σ1 : Hp), Cal z b L xs d j av σ v σ1 → gw σ σ1
  | 0, _, _, _, _, _, h => h.elim
  | d + 1, j, av, σ, v, σ1, h => by
    simp only [Cal] at h
    split at h
    · obtain ⟨-, n, h⟩ := h
      obtain ⟨v', σ', ⟨rfl, rfl⟩, g⟩ := wp_gw (Cal_gw d) n _ _ _ _ h
      exact g
    · exact h.elim
