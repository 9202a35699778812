/-! ===== the reference: what can be come to ===== -/
def okv (k x : Int32) : Prop := k = 2 → ∃ i, i < 1500 ∧ x = nI i
/-- M1 is M but for the marks, and these are the list L -/
def mkl (M M1 : Mem) (L : List Nat) : Prop := (∀ k j, (k < 37 ∨ 39 < k) → M1 k j = M k j) ∧ L.Nodup ∧ (∀ i ∈ L, i < 1500) ∧ M1 39 0 = nI L.length ∧ (∀ a i, L[a]? = some i → M1 38 a = nI i) ∧ ∀ i, i < 1500 → M1 37 i = if i ∈ L then 1 else 0
theorem nodup_le : ∀ (N : Nat) (L : List Nat), L.Nodup → (∀ i ∈ L, i < N) → L.length ≤ N
  | 0, L, _, h => by
    cases L with
    | nil => simp
    | cons a l => exact absurd (h a List.mem_cons_self) (by omega)
  | N + 1, L, hd, h => by
    have h1 := nodup_le N (L.erase N) (hd.erase N) (fun i hi => by
      have hm := (List.Nodup.mem_erase_iff hd).mp hi
      have := h i hm.2
      have h3 : i ≠ N := hm.1
      omega)
    rw [List.length_erase] at h1
    split at h1 <;> omega
theorem r_markL {d : Nat} {M M1 : Mem} {L : List Nat} {k x : Int32} (h : mkl M M1 L) (hv : okv k x) : CQ (d + 1) j_X9_mark [.ref 0, .int k, .int x] M1 (fun v M2 => v = none ∧ ∃ L2, mkl M M2 L2 ∧ (∃ T, L2 = L ++ T) ∧ (∀ i ∈ L2, i ∈ L ∨ (k = 2 ∧ x = nI i ∧ i < 1500)) ∧ ∀ i, k = 2 → x = nI i → i < 1500 → i ∈ L2) := by
  by_cases hk : k = 2
  · subst hk
    obtain ⟨i, hi, rfl⟩ := hv rfl
    obtain ⟨h1, h2, h3, h4, h5, h6⟩ := id h
    by_cases hm : i ∈ L
    · refine ⟨none, M1, (fun a q => by cases q), r_mark1 hi (by rw [h6 i hi, if_pos hm]; decide), rfl, L, h, ⟨[], by simp⟩, fun j hj => Or.inl hj, fun j _ hj hj2 => ?_⟩
      have : i = j := (nI_eq (by omega) (by omega)).mp hj
      exact this ▸ hm
    · have hnd : (L ++ [i]).Nodup := by
        rw [List.nodup_append]
        refine ⟨h2, by simp, fun a ha b hb => ?_⟩
        rw [List.mem_singleton] at hb
        subst hb
        exact fun q => hm (q ▸ ha)
      have hall : ∀ j ∈ L ++ [i], j < 1500 := fun j hj => by
        rcases List.mem_append.mp hj with q | q
        · exact h3 j q
        · rw [List.mem_singleton] at q
          omega
      have hlen := nodup_le 1500 _ hnd hall
      rw [List.length_append, List.length_singleton] at hlen
      refine ⟨none, _, (fun a q => by cases q), r_mark2 hi (show L.length < 1500 by omega) (by rw [h6 i hi, if_neg hm]) h4, rfl, L ++ [i], ⟨fun k j hkj => ?_, hnd, hall, ?_, fun a b hab => ?_, fun j hj => ?_⟩, ⟨[i], rfl⟩, fun j hj => ?_, fun j _ hj hj2 => ?_⟩
      · rw [← h1 k j hkj]
        unfold up2
        rw [if_neg (by omega), if_neg (by omega), if_neg (by omega)]
      · show upd (M1 39) 0 (nI (L.length + 1)) 0 = nI (L ++ [i]).length
        simp [upd]
      · show upd (M1 38) L.length (nI i) a = nI b
        by_cases ha : a = L.length
        · subst ha
          have e : b = i := by simpa using hab.symm
          simp [upd, e]
        · have hlt : a < L.length := by
            have := (List.getElem?_eq_some_iff.mp hab).1
            rw [List.length_append, List.length_singleton] at this
            omega
          rw [List.getElem?_append_left hlt] at hab
          rw [← h5 a b hab]
          simp [upd, ha]
      · show upd (M1 37) i 1 j = _
        by_cases hji : j = i
        · subst hji
          simp [upd]
        · rw [show upd (M1 37) i 1 j = M1 37 j by simp [upd, hji], h6 j hj]
          simp [hji]
      · rcases List.mem_append.mp hj with q | q
        · exact Or.inl q
        · rw [List.mem_singleton] at q
          subst q
          exact Or.inr ⟨rfl, rfl, hi⟩
      · have : i = j := (nI_eq (by omega) (by omega)).mp hj
        subst this
        simp
  · exact ⟨none, M1, (fun a q => by cases q), r_mark0 hk, rfl, L, h, ⟨[], by simp⟩, fun j hj => Or.inl hj, fun j q => absurd q hk⟩
/-- sizes and kinds, as the walk of reach wants them -/
def wfR (M : Mem) (p f : Nat) (lm : Nat → Nat) : Prop := M 14 0 = nI p ∧ p ≤ 1000 ∧ M 22 0 = nI f ∧ f ≤ 200 ∧ (∀ g, g < f → M 19 g = nI (lm g) ∧ lm g ≤ 16) ∧ (∀ j, j < p → okv (M 12 j) (M 13 j)) ∧ (∀ g, g < f → okv (M 17 g) (M 18 g)) ∧ (∀ g k, g < f → k < lm g → okv (M 20 (16 * g + k)) (M 21 (16 * g + k))) ∧ (∀ k, k < 16 → okv (M 23 k) (M 24 k)) ∧ (∀ k, k < 4 → M 25 k = -1 ∨ ∃ i, i < 1500 ∧ M 25 k = nI i) ∧ (∀ i, i < 1500 → (∃ n, n ≤ 40 ∧ M 32 i = nI n) ∧ (M 31 i = -1 ∨ ∃ j, j < 1500 ∧ M 31 i = nI j) ∧ ∀ s, s < 40 → okv (M 35 (40 * i + s)) (M 36 (40 * i + s)))
/-- an object that a root holds -/
def rootR (M : Mem) (p f : Nat) (lm : Nat → Nat) (i : Nat) : Prop := (∃ j, j < p ∧ M 12 j = 2 ∧ M 13 j = nI i) ∨ (∃ g, g < f ∧ M 17 g = 2 ∧ M 18 g = nI i) ∨ (∃ g k, g < f ∧ k < lm g ∧ M 20 (16 * g + k) = 2 ∧ M 21 (16 * g + k) = nI i) ∨ (∃ k, k < 16 ∧ M 23 k = 2 ∧ M 24 k = nI i) ∨ ∃ k, k < 4 ∧ M 25 k = nI i
def edgeR (M : Mem) (i j : Nat) : Prop := M 31 i = nI j ∨ ∃ n s, M 32 i = nI n ∧ n ≤ 40 ∧ s < n ∧ M 35 (40 * i + s) = 2 ∧ M 36 (40 * i + s) = nI j
def rchN (M : Mem) (p f : Nat) (lm : Nat → Nat) (b : Prop) : Nat → Nat → Prop
  | 0, i => rootR M p f lm i ∨ (b ∧ 0 < M 29 i ∧ ¬ M 30 i = 0)
  | n + 1, i => rchN M p f lm b n i ∨ ∃ j, j < 1500 ∧ rchN M p f lm b n j ∧ edgeR M j i
/-- it can be come to from roots (and, if b, from old ones) -/
def rchR (M : Mem) (p f : Nat) (lm : Nat → Nat) (b : Prop) (i : Nat) : Prop := i < 1500 ∧ ∃ n, rchN M p f lm b n i
theorem rch_edge {M : Mem} {p f : Nat} {lm : Nat → Nat} {b : Prop} {i j : Nat} (h : rchR M p f lm b i) (e : edgeR M i j) (hj : j < 1500) : rchR M p f lm b j := by
  obtain ⟨hi, n, hn⟩ := h
  exact ⟨hj, n + 1, Or.inr ⟨i, hi, hn, e⟩⟩
theorem rch_least {M : Mem} {p f : Nat} {lm : Nat → Nat} {b : Prop} {A : Nat → Prop} (h0 : ∀ i, i < 1500 → (rootR M p f lm i ∨ (b ∧ 0 < M 29 i ∧ ¬ M 30 i = 0)) → A i) (h1 : ∀ i j, i < 1500 → j < 1500 → A i → edgeR M i j → A j) : ∀ i, rchR M p f lm b i → A i := by
  have h : ∀ n i, i < 1500 → rchN M p f lm b n i → A i := by
    intro n
    induction n with
    | zero => exact fun i hi q => h0 i hi q
    | succ n ih =>
      intro i hi q
      rcases q with q | ⟨j, hj, q1, q2⟩
      · exact ih i hi q
      · exact h1 j i hj hi (ih j hj q1) q2
  exact fun i ⟨hi, n, hn⟩ => h n i hi hn
