/-! ===== the class's objects by kind and number: what a heap holds of them =====
kinds: 0 the machine, 1 Code, 2 Roots, 3 Heap, 4 Output, 5 Word, 6 Memory, 7 Frame, 8 Thing; arrays: 9 Code.words, 10 Code.places, 11 Roots.values, 12 Roots.globals, 13 Roots.protos, 14 Heap.pool, 15 Output.values, 16 Memory.names, 17 Frame.values, 18 Thing.names, 19 Thing.values -/
abbrev CS : Type := (Nat → Nat → Nat → Int32) × (Nat → Nat → Nat → Int64) × (Nat → Nat → Nat → Option Nat) × (Nat → Nat → Nat) × (Nat → Nat → Bool) × Nat × Nat
/-- ints: kind, field or place, number -/
def cI (S : CS) : Nat → Nat → Nat → Int32 := S.1
def cJ (S : CS) : Nat → Nat → Nat → Int64 := S.2.1
def cP (S : CS) : Nat → Nat → Nat → Option Nat := S.2.2.1
/-- addresses; which there are; how many cells and slots there are in all -/
def cA (S : CS) : Nat → Nat → Nat := S.2.2.2.1
def cE (S : CS) : Nat → Nat → Bool := S.2.2.2.2.1
def cn (S : CS) : Nat := S.2.2.2.2.2.1
def cz (S : CS) : Nat := S.2.2.2.2.2.2
def up3 {α : Type} (f : Nat → Nat → Nat → α) (t k i : Nat) (x : α) : Nat → Nat → Nat → α := fun t' => if t' = t then (fun k' => if k' = k then (fun i' => if i' = i then x else f t k i') else f t k') else f t'
def upN {α : Type} (f : Nat → Nat → α) (t i : Nat) (x : α) : Nat → Nat → α := fun t' => if t' = t then (fun i' => if i' = i then x else f t i') else f t'
def setI (S : CS) (t k i : Nat) (x : Int32) : CS := (up3 S.1 t k i x, S.2)
def setJ (S : CS) (t k i : Nat) (x : Int64) : CS := (S.1, up3 S.2.1 t k i x, S.2.2)
def setP (S : CS) (t k i : Nat) (x : Option Nat) : CS := (S.1, S.2.1, up3 S.2.2.1 t k i x, S.2.2.2)
def tcl : List Nat := [8, 0, 5, 2, 4, 7, 3, 1, 6]
def akd : List Nat := [9, 9, 9, 9, 9, 9, 9, 9, 9, 4, 0, 1, 1, 5, 5, 1, 2, 1, 2, 1]
def lnt (np : Nat) : Nat → Nat := fun t => if t = 14 then np else ([0, 0, 0, 0, 0, 0, 0, 0, 0, 2000, 200, 1000, 16, 4, 0, 1000, 40, 17, 40, 40] : List Nat).getD t 0
def fval (S : CS) (t i k : Nat) : FieldType → Value
  | .int => .int (cI S t k i)
  | .boolean => .int (cI S t k i)
  | _ => va_rf (cP S t k i)
def ofs (S : CS) (t i : Nat) : List Value := (fTy.getD (tcl.getD t 99) []).mapIdx (fun k ty => fval S t i k ty)
def ccel (np : Nat) (S : CS) (t i : Nat) : va_E := if t < 9 then oB (tcl.getD t 99) (ofs S t i) else match akd.getD t 9 with
  | 0 => aI (lnt np t) (fun j => cI S t j i)
  | 1 => aJ (lnt np t) (fun j => cJ S t j i)
  | 2 => aB (lnt np t) (fun j => cI S t j i)
  | q => aR q (lnt np t) (fun j => cP S t j i)
/-- z: where the law's cells begin; np: the pool's length; i0, w0, G: cells that are not the class's -/
def Rl (z np i0 w0 : Nat) (G : Nat → Option va_E) (S : CS) (σ : Hp) : Prop :=
  (∀ t i, t < 20 → cE S t i = true → z ≤ cA S t i ∧ σ[cA S t i - z]? = some (ccel np S t i) ∧ (cA S t i - z < i0 ∨ i0 + w0 ≤ cA S t i - z)) ∧
  (∀ t i t' i', t < 20 → t' < 20 → cE S t i = true → cE S t' i' = true → cA S t i = cA S t' i' → t = t' ∧ i = i') ∧
  (∀ k, i0 ≤ k → k < i0 + w0 → σ[k]? = G k) ∧ σ.length = cn S ∧ szH σ = cz S ∧ i0 + w0 ≤ σ.length
theorem up3_ne {α : Type} {f : Nat → Nat → Nat → α} {t k i t' k' i' : Nat} {x : α} (h : ¬ (t' = t ∧ i' = i)) : up3 f t k i x t' k' i' = f t' k' i' := by
  unfold up3
  by_cases h1 : t' = t
  · subst h1
    by_cases h2 : k' = k
    · subst h2
      rw [if_pos rfl, if_pos rfl, if_neg (fun q => h ⟨rfl, q⟩)]
    · rw [if_pos rfl, if_neg h2]
  · rw [if_neg h1]
theorem up3_s {α : Type} {f : Nat → Nat → Nat → α} {t k i : Nat} {x : α} : up3 f t k i x t k i = x := by simp [up3]
theorem up3_k {α : Type} {f : Nat → Nat → Nat → α} {t k i k' : Nat} {x : α} (h : k' ≠ k) : up3 f t k i x t k' i = f t k' i := by simp [up3, h]
theorem ccel_congr {np : Nat} {S S' : CS} {t i : Nat} (h1 : ∀ k, cI S' t k i = cI S t k i) (h2 : ∀ k, cJ S' t k i = cJ S t k i) (h3 : ∀ k, cP S' t k i = cP S t k i) : ccel np S' t i = ccel np S t i := by
  have hf : ofs S' t i = ofs S t i := by
    unfold ofs
    congr 1
    funext k ty
    cases ty <;> simp [fval, h1, h3]
  unfold ccel
  simp only [hf, h1, h2, h3]
theorem ofs_get {S : CS} {t i k : Nat} {ty : FieldType} (h : (fTy.getD (tcl.getD t 99) [])[k]? = some ty) : (ofs S t i)[k]? = some (fval S t i k ty) := by
  unfold ofs
  rw [List.getElem?_mapIdx, h]
  rfl
theorem ofs_len (S : CS) (t i : Nat) : (ofs S t i).length = (fTy.getD (tcl.getD t 99) []).length := by simp [ofs]
theorem ofs_set {S S' : CS} {t i k : Nat} {v : Value} {ty : FieldType} (h : (fTy.getD (tcl.getD t 99) [])[k]? = some ty) (hv : fval S' t i k ty = v) (h1 : ∀ k', k' ≠ k → cI S' t k' i = cI S t k' i) (h3 : ∀ k', k' ≠ k → cP S' t k' i = cP S t k' i) : (ofs S t i).set k v = ofs S' t i := by
  apply List.ext_getElem?
  intro j
  have hk : k < (ofs S t i).length := by rw [ofs_len]; exact (List.getElem?_eq_some_iff.mp h).1
  by_cases hj : j = k
  · subst hj
    rw [List.getElem?_set_self hk, ofs_get h, hv]
  · rw [List.getElem?_set_ne (Ne.symm hj)]
    unfold ofs
    rw [List.getElem?_mapIdx, List.getElem?_mapIdx]
    congr 1
    funext ty'
    cases ty' <;> simp [fval, h1 j hj, h3 j hj]
theorem esz_ccel {np : Nat} (S S' : CS) (t i : Nat) : esz (ccel np S t i) = esz (ccel np S' t i) := by
  unfold ccel
  split
  · rfl
  · split <;> rfl
/-- behind a write into one of them -/
theorem Rl_put {z np i0 w0 : Nat} {G : Nat → Option va_E} {S S' : CS} {σ : Hp} {t i : Nat} (h : Rl z np i0 w0 G S σ) (ht : t < 20) (he : cE S t i = true) (hA : cA S' = cA S) (hE : cE S' = cE S) (hn : cn S' = cn S) (hz : cz S' = cz S) (hc : ∀ t' i', ¬ (t' = t ∧ i' = i) → ccel np S' t' i' = ccel np S t' i') : Rl z np i0 w0 G S' (upc z σ (cA S t i) (ccel np S' t i)) := by
  obtain ⟨h1, h2, h3, h4, h5, h6⟩ := h
  obtain ⟨g1, g2, g3⟩ := h1 t i ht he
  have hlt : cA S t i - z < σ.length := (List.getElem?_eq_some_iff.mp g2).1
  refine ⟨fun t' i' ht' he' => ?_, fun t1 i1 t2 i2 a1 a2 b1 b2 c => ?_, fun k k1 k2 => ?_, ?_, ?_, ?_⟩
  · rw [hE] at he'
    rw [hA]
    obtain ⟨f1, f2, f3⟩ := h1 t' i' ht' he'
    refine ⟨f1, ?_, f3⟩
    unfold upc
    by_cases hq : t' = t ∧ i' = i
    · obtain ⟨rfl, rfl⟩ := hq
      exact List.getElem?_set_self hlt
    · rw [List.getElem?_set_ne, f2, hc t' i' hq]
      intro q
      exact hq (h2 t' i' t i ht' ht he' he (by omega))
  · rw [hE] at b1 b2
    rw [hA] at c
    exact h2 t1 i1 t2 i2 a1 a2 b1 b2 c
  · unfold upc
    rw [List.getElem?_set_ne (by omega)]
    exact h3 k k1 k2
  · rw [upc_len, hn]
    exact h4
  · rw [szH_upc g2 (esz_ccel S' S t i), hz]
    exact h5
  · rw [upc_len]
    exact h6
theorem Rl_cel {z np i0 w0 b L : Nat} {xs : Nat → Int32} {G : Nat → Option va_E} {S : CS} {σ : Hp} {t i : Nat} (h : Rl z np i0 w0 G S σ) (ht : t < 20) (he : cE S t i = true) : cel z b L xs σ (cA S t i) = some (ccel np S t i) := by
  obtain ⟨g1, g2, -⟩ := h.1 t i ht he
  unfold cel
  rw [if_pos g1]
  exact g2
theorem setI_put {np : Nat} {S : CS} {t k i : Nat} {x : Int32} : ∀ t' i', ¬ (t' = t ∧ i' = i) → ccel np (setI S t k i x) t' i' = ccel np S t' i' := fun t' i' h => ccel_congr (fun _ => up3_ne h) (fun _ => rfl) (fun _ => rfl)
theorem setJ_put {np : Nat} {S : CS} {t k i : Nat} {x : Int64} : ∀ t' i', ¬ (t' = t ∧ i' = i) → ccel np (setJ S t k i x) t' i' = ccel np S t' i' := fun t' i' h => ccel_congr (fun _ => rfl) (fun _ => up3_ne h) (fun _ => rfl)
theorem setP_put {np : Nat} {S : CS} {t k i : Nat} {x : Option Nat} : ∀ t' i', ¬ (t' = t ∧ i' = i) → ccel np (setP S t k i x) t' i' = ccel np S t' i' := fun t' i' h => ccel_congr (fun _ => rfl) (fun _ => rfl) (fun _ => up3_ne h)
/-- one more: kind t, number i, at the heap's end -/
def newS (S : CS) (z t i : Nat) (w : Nat) : CS := (fun t' => if t' = t then (fun k i' => if i' = i then 0 else S.1 t k i') else S.1 t', fun t' => if t' = t then (fun k i' => if i' = i then 0 else S.2.1 t k i') else S.2.1 t', fun t' => if t' = t then (fun k i' => if i' = i then none else S.2.2.1 t k i') else S.2.2.1 t', upN S.2.2.2.1 t i (z + cn S), upN S.2.2.2.2.1 t i true, cn S + 1, cz S + w)
theorem newS_ne {S : CS} {z t i w t' i' : Nat} (h : ¬ (t' = t ∧ i' = i)) : (∀ k, cI (newS S z t i w) t' k i' = cI S t' k i') ∧ (∀ k, cJ (newS S z t i w) t' k i' = cJ S t' k i') ∧ (∀ k, cP (newS S z t i w) t' k i' = cP S t' k i') ∧ cA (newS S z t i w) t' i' = cA S t' i' ∧ cE (newS S z t i w) t' i' = cE S t' i' := by
  unfold newS cI cJ cP cA cE upN
  by_cases h1 : t' = t
  · subst h1
    have h2 : i' ≠ i := fun q => h ⟨rfl, q⟩
    simp [h2]
  · simp [h1]
theorem newS_s {S : CS} {z t i w : Nat} : (∀ k, cI (newS S z t i w) t k i = 0) ∧ (∀ k, cJ (newS S z t i w) t k i = 0) ∧ (∀ k, cP (newS S z t i w) t k i = none) ∧ cA (newS S z t i w) t i = z + cn S ∧ cE (newS S z t i w) t i = true := by
  unfold newS cI cJ cP cA cE upN
  simp
theorem Rl_new {z np i0 w0 : Nat} {G : Nat → Option va_E} {S : CS} {σ : Hp} {t i w : Nat} (h : Rl z np i0 w0 G S σ) (ht : t < 20) (he : cE S t i = false) (hw : esz (ccel np (newS S z t i w) t i) = w) : Rl z np i0 w0 G (newS S z t i w) (σ ++ [ccel np (newS S z t i w) t i]) := by
  obtain ⟨h1, h2, h3, h4, h5, h6⟩ := h
  have hold : ∀ t' i', cE S t' i' = true → ¬ (t' = t ∧ i' = i) := fun t' i' q r => by
    rw [r.1, r.2, he] at q
    cases q
  refine ⟨fun t' i' ht' he' => ?_, fun t1 i1 t2 i2 a1 a2 b1 b2 c => ?_, fun k k1 k2 => ?_, ?_, ?_, ?_⟩
  · by_cases hq : t' = t ∧ i' = i
    · obtain ⟨rfl, rfl⟩ := hq
      rw [newS_s.2.2.2.1]
      refine ⟨by omega, ?_, Or.inr (by omega)⟩
      rw [show z + cn S - z = σ.length by omega, List.getElem?_append_right (Nat.le_refl _), Nat.sub_self]
      rfl
    · obtain ⟨g1, g2, g3, g4, g5⟩ := newS_ne (S := S) (z := z) (w := w) hq
      rw [g5] at he'
      rw [g4, ccel_congr g1 g2 g3]
      obtain ⟨f1, f2, f3⟩ := h1 t' i' ht' he'
      exact ⟨f1, by rw [List.getElem?_append_left (List.getElem?_eq_some_iff.mp f2).1]; exact f2, f3⟩
  · have lt : ∀ t' i', t' < 20 → cE S t' i' = true → cA S t' i' ≠ z + cn S := fun t' i' q r s => by
      obtain ⟨f1, f2, f3⟩ := h1 t' i' q r
      have := (List.getElem?_eq_some_iff.mp f2).1
      omega
    by_cases hq1 : t1 = t ∧ i1 = i <;> by_cases hq2 : t2 = t ∧ i2 = i
    · exact ⟨hq1.1.trans hq2.1.symm, hq1.2.trans hq2.2.symm⟩
    · rw [hq1.1, hq1.2, newS_s.2.2.2.1, (newS_ne hq2).2.2.2.1] at c
      rw [(newS_ne hq2).2.2.2.2] at b2
      exact absurd c.symm (lt t2 i2 a2 b2)
    · rw [hq2.1, hq2.2, newS_s.2.2.2.1, (newS_ne hq1).2.2.2.1] at c
      rw [(newS_ne hq1).2.2.2.2] at b1
      exact absurd c (lt t1 i1 a1 b1)
    · rw [(newS_ne hq1).2.2.2.1, (newS_ne hq2).2.2.2.1] at c
      rw [(newS_ne hq1).2.2.2.2] at b1
      rw [(newS_ne hq2).2.2.2.2] at b2
      exact h2 t1 i1 t2 i2 a1 a2 b1 b2 c
  · rw [List.getElem?_append_left (by omega)]
    exact h3 k k1 k2
  · rw [List.length_append, List.length_singleton, h4]
    rfl
  · rw [szH_app, h5, hw]
    rfl
  · rw [List.length_append]
    omega
