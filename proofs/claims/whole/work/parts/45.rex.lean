/-! ===== the reference's calls by what is said of their end ===== -/
def nrf (v : Option Value) : Prop := ∀ a, v ≠ some (.ref a)
set_option maxHeartbeats 4000000 in
theorem insR_ex {C : Rrel} {oc : Nat} {rt : Option FieldType} {Qr : Option Value → Mem → Prop} {K : Nat → Lv → List Value → Mem → Prop} {Kx : Option Value → Mem → Nat → Lv → List Value → Mem → Prop} {pc : Nat} {lv : Lv} {st : List Value} {M : Mem} {i : Instr}
    (hK : ∀ pc lv st M', K pc lv st M' → ∃ v M1, nrf v ∧ Qr v M1 ∧ Kx v M1 pc lv st M')
    (h : insR C oc rt Qr K pc lv st M i) : ∃ v M1, nrf v ∧ Qr v M1 ∧ insR C oc rt (fun v' M' => v' = v ∧ M' = M1) (Kx v M1) pc lv st M i := by
  cases i
  case getfield i =>
    simp only [insR] at h ⊢
    split at h
    · split at h <;> first
        | exact h.elim
        | exact hK _ _ _ _ h
    · exact h.elim
  case putfield i =>
    simp only [insR] at h ⊢
    split at h
    · split at h
      · exact hK _ _ _ _ h
      · obtain ⟨v9, M9, n9, q9, k9⟩ := hK _ _ _ _ h.2
        exact ⟨v9, M9, n9, q9, h.1, k9⟩
      · exact h.elim
    · exact h.elim
  case iaload =>
    simp only [insR] at h ⊢
    split at h
    · split at h
      · obtain ⟨v9, M9, n9, q9, k9⟩ := hK _ _ _ _ h.2
        exact ⟨v9, M9, n9, q9, h.1, k9⟩
      · exact h.elim
    · exact h.elim
  case baload =>
    simp only [insR] at h ⊢
    split at h
    · split at h
      · obtain ⟨v9, M9, n9, q9, k9⟩ := hK _ _ _ _ h.2
        exact ⟨v9, M9, n9, q9, h.1, k9⟩
      · exact h.elim
    · exact h.elim
  case iastore =>
    simp only [insR] at h ⊢
    split at h
    · split at h
      · obtain ⟨v9, M9, n9, q9, k9⟩ := hK _ _ _ _ h.2
        exact ⟨v9, M9, n9, q9, h.1, k9⟩
      · exact h.elim
    · exact h.elim
  case bastore =>
    simp only [insR] at h ⊢
    split at h
    · split at h
      · obtain ⟨v9, M9, n9, q9, k9⟩ := hK _ _ _ _ h.2.2
        exact ⟨v9, M9, n9, q9, h.1, h.2.1, k9⟩
      · exact h.elim
    · exact h.elim
  case ifCond c f =>
    simp only [insR] at h ⊢
    split at h
    · rename_i x r
      by_cases q : icc c x 0
      · obtain ⟨v9, M9, n9, q9, k9⟩ := hK _ _ _ _ (h.1 q)
        exact ⟨v9, M9, n9, q9, fun _ => k9, fun q2 => absurd q q2⟩
      · obtain ⟨v9, M9, n9, q9, k9⟩ := hK _ _ _ _ (h.2 q)
        exact ⟨v9, M9, n9, q9, fun q2 => absurd q2 q, fun _ => k9⟩
    · exact h.elim
  case if_icmp c f =>
    simp only [insR] at h ⊢
    split at h
    · rename_i y x r
      by_cases q : icc c x y
      · obtain ⟨v9, M9, n9, q9, k9⟩ := hK _ _ _ _ (h.1 q)
        exact ⟨v9, M9, n9, q9, fun _ => k9, fun q2 => absurd q q2⟩
      · obtain ⟨v9, M9, n9, q9, k9⟩ := hK _ _ _ _ (h.2 q)
        exact ⟨v9, M9, n9, q9, fun q2 => absurd q2 q, fun _ => k9⟩
    · exact h.elim
  case ldiv =>
    simp only [insR] at h ⊢
    split at h
    · obtain ⟨v9, M9, n9, q9, k9⟩ := hK _ _ _ _ h.2
      exact ⟨v9, M9, n9, q9, h.1, k9⟩
    · exact h.elim
  case lrem =>
    simp only [insR] at h ⊢
    split at h
    · obtain ⟨v9, M9, n9, q9, k9⟩ := hK _ _ _ _ h.2
      exact ⟨v9, M9, n9, q9, h.1, k9⟩
    · exact h.elim
  case ireturn =>
    simp only [insR] at h ⊢
    split at h
    · exact ⟨_, _, (fun a q => by cases q), h.2, h.1, rfl, rfl⟩
    · exact h.elim
  case return_ =>
    simp only [insR] at h ⊢
    split at h
    · exact ⟨_, _, (fun a q => by cases q), h, rfl, rfl⟩
    · exact h.elim
  case invokevirtual i =>
    simp only [insR] at h ⊢
    split at h
    · split at h
      · obtain ⟨h1, h2, h3, v, M1, h4, h5, h⟩ := h
        obtain ⟨v9, M9, n9, q9, k9⟩ := hK _ _ _ _ h
        exact ⟨v9, M9, n9, q9, h1, h2, h3, v, M1, h4, h5, k9⟩
      · exact h.elim
    · exact h.elim
  case invokestatic i =>
    simp only [insR] at h ⊢
    split at h
    · split at h
      · obtain ⟨h1, h2, v, M1, h4, h5, h⟩ := h
        obtain ⟨v9, M9, n9, q9, k9⟩ := hK _ _ _ _ h
        exact ⟨v9, M9, n9, q9, h1, h2, v, M1, h4, h5, k9⟩
      · exact h.elim
    · exact h.elim
  all_goals first
    | exact False.elim h
    | exact hK _ _ _ _ h
    | (simp only [insR] at h ⊢
       split at h <;> first
        | exact h.elim
        | exact hK _ _ _ _ h)
theorem wpR_ex {C : Rrel} {t : List (Nat × Instr × Nat)} {oc : Nat} {rt : Option FieldType} {Qr : Option Value → Mem → Prop} :
    ∀ (n pc : Nat) (lv : Lv) (st : List Value) (M : Mem), wpR C t oc rt Qr n pc lv st M → ∃ v M1, nrf v ∧ Qr v M1 ∧ wpR C t oc rt (fun v' M' => v' = v ∧ M' = M1) n pc lv st M
  | 0, _, _, _, _, h => h.elim
  | n + 1, pc, lv, st, M, h => by
    simp only [wpR] at h ⊢
    split at h
    · exact insR_ex (Kx := fun v M1 => wpR C t oc rt (fun v' M' => v' = v ∧ M' = M1) n) (fun pc lv st M' h => wpR_ex n pc lv st M' h) h
    · exact h.elim
/-- a call of the reference's comes back, and Q holds of its answer and of the memory behind it -/
def CQ (d j : Nat) (av : List Value) (M : Mem) (Q : Option Value → Mem → Prop) : Prop := ∃ v M', nrf v ∧ CalR d j av M v M' ∧ Q v M'
theorem CQ_of {d j : Nat} {md : MD} {av : List Value} {M : Mem} {Q : Option Value → Mem → Prop} (hp : prog[j]? = some md) (hl : (lg_sl av).length ≤ md.2.2.1) (h : WR (CalR d) md.2.2.2.2.2.2.2 md.2.2.2.2.2.1 md.2.2.2.1 Q 0 (lv_args 0 av) [] M) : CQ (d + 1) j av M Q := by
  obtain ⟨n, h⟩ := h
  obtain ⟨v, M1, h1, h2, h3⟩ := wpR_ex n _ _ _ _ h
  refine ⟨v, M1, h1, ?_, h2⟩
  simp only [CalR, hp]
  exact ⟨hl, n, h3⟩
theorem CQ.mono {d j : Nat} {av : List Value} {M : Mem} {Q Q' : Option Value → Mem → Prop} (h : CQ d j av M Q) (hq : ∀ v M', Q v M' → Q' v M') : CQ d j av M Q' := by
  obtain ⟨v, M', h1, h2, h3⟩ := h
  exact ⟨v, M', h1, h2, hq v M' h3⟩
theorem CQ_ex {d j : Nat} {av : List Value} {M M1 : Mem} {v : Option Value} (hn : nrf v) (h : CalR d j av M v M1) : CQ d j av M (fun v' M' => v' = v ∧ M' = M1) := ⟨v, M1, hn, h, rfl, rfl⟩
section RQ
variable {d : Nat} {t : List (Nat × Instr × Nat)} {oc : Nat} {rt : Option FieldType} {Qr : Option Value → Mem → Prop} {pc : Nat} {lv : Lv} {st : List Value} {M : Mem} {len : Nat}
theorem R_vq {i j ix : Nat} {md : MD} {av rest : List Value} {Q : Option Value → Mem → Prop} (h : t.lookup pc = some (.invokevirtual i, len)) (hm : mres oc i = some (0, j, ix)) (hp : prog[j]? = some md) (h9 : md.2.2.2.2.2.1 = 9) (h0 : st[md.2.2.2.2.1]? = some (.ref 0)) (hav : .ref 0 :: (st.take md.2.2.2.2.1).reverse = av) (hrest : st.drop (md.2.2.2.2.1 + 1) = rest) (hw : wgt rest ≤ 8) (hc : CQ d j av M Q) (k : ∀ v M1, Q v M1 → WR (CalR d) t oc rt Qr (pc + 3) lv (v.toList ++ rest) M1) : WR (CalR d) t oc rt Qr pc lv st M := by
  obtain ⟨v, M1, h1, h2, h3⟩ := hc
  exact R_virt h hm hp h9 h0 hav hrest hw h1 h2 (k v M1 h3)
theorem R_sq {i j ix : Nat} {md : MD} {av rest : List Value} {Q : Option Value → Mem → Prop} (h : t.lookup pc = some (.invokestatic i, len)) (hm : mres oc i = some (1, j, ix)) (hp : prog[j]? = some md) (hln : md.2.2.2.2.1 ≤ st.length) (hav : (st.take md.2.2.2.2.1).reverse = av) (hrest : st.drop md.2.2.2.2.1 = rest) (hw : wgt rest ≤ 8) (hc : CQ d j av M Q) (k : ∀ v M1, Q v M1 → WR (CalR d) t oc rt Qr (pc + 3) lv (v.toList ++ rest) M1) : WR (CalR d) t oc rt Qr pc lv st M := by
  obtain ⟨v, M1, h1, h2, h3⟩ := hc
  exact R_stat h hm hp hln hav hrest hw h1 h2 (k v M1 h3)
end RQ
