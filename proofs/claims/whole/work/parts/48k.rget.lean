/-! ===== the reference: get, drop, adopt ===== -/
theorem mtl_keep {M : Mem} {s n a k i f j : Nat} (h : f < 47) : mtl M s n a k i f j = M f j := by
  have e : ∀ (M : Mem) (f' j' : Nat) (x : Int32), 47 ≤ f' → up2 M f' j' x f j = M f j := fun M f' j' x hf => by
    unfold up2
    rw [if_neg (by omega)]
  unfold mtl
  split
  · unfold nmc
    rw [if_neg (by omega), e _ _ _ _ (by omega), e _ _ _ _ (by omega), e _ _ _ _ (by omega), e _ _ _ _ (by omega)]
  · rw [e _ _ _ _ (by omega), e _ _ _ _ (by omega), e _ _ _ _ (by omega)]
theorem metM_keep {M : Mem} {s n a k i f j : Nat} {b : Bool} (h : f < 47) : metM M s n a k i b f j = M f j := by
  have e : ∀ (M : Mem) (f' j' : Nat) (x : Int32), 47 ≤ f' → up2 M f' j' x f j = M f j := fun M f' j' x hf => by
    unfold up2
    rw [if_neg (by omega)]
  unfold metM
  rw [mtl_keep h]
  split
  · rw [e _ _ _ _ (by omega), e _ _ _ _ (by omega)]
  · rw [e _ _ _ _ (by omega)]
theorem osl_lt {M : Mem} {i n : Nat} {x : Int32} {s : Nat} (hn : M 32 i = nI n) (hn4 : n ≤ 40) (h : osl M i x = some s) : s < n := by
  unfold osl at h
  have := (lst_some.mp h).1
  rw [hn, nI_clamp (by omega)] at this
  exact this
theorem fnd_lt {M : Mem} {lv : Nat → Prop} {rk : Nat → Nat} {x : Int32} (hd : dwn M lv rk) : ∀ (N : Nat) (c : Int32) (q : Nat × Nat), (c = -1 ∨ ∃ i, lv i ∧ c = nI i) → fnd M x N c = some q → lv q.1 ∧ q.1 < 1500 ∧ q.2 < 40 ∧ osl M q.1 x = some q.2 := by
  intro N
  induction N with
  | zero => intro c q _ h; cases h
  | succ N ih =>
    intro c q hc h
    rcases hc with rfl | ⟨i, hi, rfl⟩
    · rw [fnd, if_pos (by decide)] at h; cases h
    · obtain ⟨hi15, ⟨n, hn4, hn⟩, hpar⟩ := hd i hi
      rw [fnd, if_neg (nI_pos (by omega)), nI_clamp (by omega)] at h
      cases ho : osl M i x with
      | some s =>
        rw [ho] at h
        cases h
        exact ⟨hi, hi15, Nat.lt_of_lt_of_le (osl_lt hn hn4 ho) hn4, ho⟩
      | none =>
        rw [ho] at h
        refine ih _ q ?_ h
        rcases hpar with g | ⟨j, g1, g2, -⟩
        · exact Or.inl g
        · exact Or.inr ⟨j, g1, g2⟩
theorem r_get0 {d : Nat} {M : Mem} {lv : Nat → Prop} {rk : Nat → Nat} {p k N : Nat} {x : Int32} (hp : M 14 0 = nI p) (hp1 : p ≤ 1000) (hp0 : 0 < p) (hk4 : k < 4) (hk : M 12 (p - 1 - 0) = nI k) (hd : dwn M lv rk) (hc : chn M k (M 13 (p - 1 - 0)) = -1 ∨ ∃ i, lv i ∧ chn M k (M 13 (p - 1 - 0)) = nI i ∧ rk i < N) (hq : fnd M x (N + 1) (chn M k (M 13 (p - 1 - 0))) = none) : CalR (d + 4) j_X9_get [.ref 0, .int x] M (some (.int (nI 2))) (up2 M 9 0 (nI 2)) := by
  have hF : CalR (d + 3) j_X9_find [.ref 0, .int (nI k), .int (M 13 (p - 1 - 0)), .int x] M (some (.int (-1))) M := by
    have := r_find (d := d + 1) (x := x) hd hk4 hc
    rw [hq] at this
    exact this
  refine CalR_of (md := md_X9_get) (d := d + 3) rfl (Nat.le_of_ble_eq_true rfl) ?_
  show WR (CalR (d + 3)) t_X9_get 9 (some .int) _ 0 [(0, .ref 0), (1, .int x)] [] _
  refine R_aload_n rfl rfl ?_
  refine R_aload_n rfl rfl ?_
  refine R_iconst (y := nI 0) rfl (by decide) ?_
  refine R_virt rfl rfl rfl rfl rfl rfl rfl (Nat.le_of_ble_eq_true rfl) (fun _ q => by cases q) (r_topKind (by first | assumption | rfl) (by omega) (by omega)) ?_
  try refine R_top (y := nI _) (by assumption) ?_
  refine R_aload_n rfl rfl ?_
  refine R_iconst (y := nI 0) rfl (by decide) ?_
  refine R_virt rfl rfl rfl rfl rfl rfl rfl (Nat.le_of_ble_eq_true rfl) (fun _ q => by cases q) (r_topNumber (by first | assumption | rfl) (by omega) (by omega)) ?_
  try refine R_top (y := nI _) (by assumption) ?_
  refine R_iload_n rfl rfl ?_
  refine R_virt rfl rfl rfl rfl rfl rfl rfl (Nat.le_of_ble_eq_true rfl) (fun _ q => by cases q) (hF) ?_
  try refine R_top (y := nI _) (by assumption) ?_
  refine R_istore_n (lv' := [(2, _), (0, _), (1, _)]) rfl rfl ?_
  refine R_iload_n rfl rfl ?_
  refine R_ifF rfl (by first | assumption | exact icF (by decide) | exact ic_F (by omega) (by omega) (by simp only [icN, not_true_eq_false, not_false_eq_true] <;> omega) | exact ic_F0 (by omega) (by simp only [icN, not_true_eq_false, not_false_eq_true] <;> omega)) ?_
  refine R_aload_n rfl rfl ?_
  refine R_iconst (y := nI 2) rfl (by decide) ?_
  refine R_virt rfl rfl rfl rfl rfl rfl rfl (Nat.le_of_ble_eq_true rfl) (fun _ q => by cases q) (r_ends) ?_
  try refine R_top (y := nI _) (by assumption) ?_
  exact R_iret rfl rfl (by first | trivial | exact Or.inl rfl | exact Or.inr rfl | assumption) ⟨rfl, rfl⟩
theorem r_get1 {d : Nat} {M : Mem} {lv : Nat → Prop} {rk : Nat → Nat} {p k N a s i n : Nat} {x : Int32} {b : Bool} {q : Nat × Nat} (hp : M 14 0 = nI p) (hp1 : p ≤ 1000) (hp0 : 0 < p) (hk4 : k < 4) (hk : M 12 (p - 1 - 0) = nI k) (hd : dwn M lv rk) (hc : chn M k (M 13 (p - 1 - 0)) = -1 ∨ ∃ i, lv i ∧ chn M k (M 13 (p - 1 - 0)) = nI i ∧ rk i < N) (hq : fnd M x (N + 1) (chn M k (M 13 (p - 1 - 0))) = some q) (ha : M 10 0 = nI a) (ha2 : a < 2000) (hs : M 11 0 = nI s) (hpr : M 25 k = -1 ∨ ∃ i, i < 1500 ∧ M 25 k = nI i) (hi : i < 1500) (hn : M 32 i = nI n) (hn4 : n ≤ 40) (hpi : M 31 i = -1 ∨ ∃ j, j < 1500 ∧ M 31 i = nI j) (hy : k = 2 → M 13 (p - 1 - 0) = nI i) (hab : abv M k (M 13 (p - 1 - 0)) = -1 ∨ ∃ i, lv i ∧ abv M k (M 13 (p - 1 - 0)) = nI i ∧ rk i < N) (hb : b = true ↔ (rmb M a k i ∧ clm M (M 51 a) (N + 1) (abv M k (M 13 (p - 1 - 0))) = true)) : CalR (d + 4) j_X9_get [.ref 0, .int x] M (some (.int 0)) (welM (pushM (lowM (metM M s n a k i b) (p - 1)) (p - 1) (M 35 (40 * q.1 + q.2)) (M 36 (40 * q.1 + q.2))) (nI (a + 1)) s) := by
  obtain ⟨-, q1, q2, -⟩ := fnd_lt hd (N + 1) _ q (by
    rcases hc with h | ⟨i, h1, h2, -⟩
    · exact Or.inl h
    · exact Or.inr ⟨i, h1, h2⟩) hq
  have hF : CalR (d + 3) j_X9_find [.ref 0, .int (nI k), .int (M 13 (p - 1 - 0)), .int x] M (some (.int (nI (40 * q.1 + q.2)))) M := by
    have := r_find (d := d + 1) (x := x) hd hk4 hc
    rw [hq] at this
    exact this
  have hm := r_meet (d := d) hd ha2 hk4 hpr hi hn hn4 hpi hy hs hab hb
  refine CalR_of (md := md_X9_get) (d := d + 3) rfl (Nat.le_of_ble_eq_true rfl) ?_
  show WR (CalR (d + 3)) t_X9_get 9 (some .int) _ 0 [(0, .ref 0), (1, .int x)] [] _
  refine R_aload_n rfl rfl ?_
  refine R_aload_n rfl rfl ?_
  refine R_iconst (y := nI 0) rfl (by decide) ?_
  refine R_virt rfl rfl rfl rfl rfl rfl rfl (Nat.le_of_ble_eq_true rfl) (fun _ q => by cases q) (r_topKind (by first | assumption | rfl) (by omega) (by omega)) ?_
  try refine R_top (y := nI _) (by assumption) ?_
  refine R_aload_n rfl rfl ?_
  refine R_iconst (y := nI 0) rfl (by decide) ?_
  refine R_virt rfl rfl rfl rfl rfl rfl rfl (Nat.le_of_ble_eq_true rfl) (fun _ q => by cases q) (r_topNumber (by first | assumption | rfl) (by omega) (by omega)) ?_
  try refine R_top (y := nI _) (by assumption) ?_
  refine R_iload_n rfl rfl ?_
  refine R_virt rfl rfl rfl rfl rfl rfl rfl (Nat.le_of_ble_eq_true rfl) (fun _ q => by cases q) (hF) ?_
  try refine R_top (y := nI _) (by assumption) ?_
  refine R_istore_n (lv' := [(2, _), (0, _), (1, _)]) rfl rfl ?_
  refine R_iload_n rfl rfl ?_
  refine R_ifT (pc' := 26) rfl rfl (by first | assumption | exact icT (by decide) | exact ic_T (by omega) (by omega) (by simp only [icN, not_true_eq_false, not_false_eq_true] <;> omega) | exact ic_T0 (by omega) (by simp only [icN, not_true_eq_false, not_false_eq_true] <;> omega)) ?_
  refine R_aload_n rfl rfl ?_
  refine R_aload_n rfl rfl ?_
  refine R_getI rfl rfl (Or.inl rfl) ?_
  try refine R_top (y := nI _) (by assumption) ?_
  refine R_aload_n rfl rfl ?_
  refine R_iconst (y := nI 0) rfl (by decide) ?_
  refine R_virt rfl rfl rfl rfl rfl rfl rfl (Nat.le_of_ble_eq_true rfl) (fun _ q => by cases q) (r_topKind (by first | assumption | rfl) (by omega) (by omega)) ?_
  try refine R_top (y := nI _) (by assumption) ?_
  refine R_aload_n rfl rfl ?_
  refine R_iconst (y := nI 0) rfl (by decide) ?_
  refine R_virt rfl rfl rfl rfl rfl rfl rfl (Nat.le_of_ble_eq_true rfl) (fun _ q => by cases q) (r_topNumber (by first | assumption | rfl) (by omega) (by omega)) ?_
  try refine R_top (y := nI _) (by assumption) ?_
  refine R_virt rfl rfl rfl rfl rfl rfl rfl (Nat.le_of_ble_eq_true rfl) (fun _ q => by cases q) (hm) ?_
  have k14 : (metM M s n a k i b) 14 0 = nI p := (metM_keep (by omega)).trans hp
  have k10 : (metM M s n a k i b) 10 0 = nI a := (metM_keep (by omega)).trans ha
  have k11 : (metM M s n a k i b) 11 0 = nI s := (metM_keep (by omega)).trans hs
  rw [show M 35 (40 * q.1 + q.2) = (metM M s n a k i b) 35 (40 * q.1 + q.2) from (metM_keep (by omega)).symm, show M 36 (40 * q.1 + q.2) = (metM M s n a k i b) 36 (40 * q.1 + q.2) from (metM_keep (by omega)).symm]
  generalize metM M s n a k i b = M1 at k14 k10 k11 ⊢
  refine R_aload_n rfl rfl ?_
  refine R_dup rfl ?_
  refine R_getI rfl rfl (Or.inl rfl) ?_
  try refine R_top (y := nI _) (by assumption) ?_
  refine R_iconst (y := nI 1) rfl (by decide) ?_
  first | refine R_isubN rfl (by omega) ?_ | refine R_isub rfl ?_
  refine R_put rfl rfl rfl ?_
  refine R_aload_n rfl rfl ?_
  refine R_aload_n rfl rfl ?_
  refine R_getA rfl rfl (Or.inl rfl) ?_
  refine R_iload_n rfl rfl ?_
  refine R_iald rfl rfl rfl (show _ < 60000 from by omega) ?_
  try refine R_top (y := nI _) (by assumption) ?_
  refine R_aload_n rfl rfl ?_
  refine R_getA rfl rfl (Or.inl rfl) ?_
  refine R_iload_n rfl rfl ?_
  refine R_iald rfl rfl rfl (show _ < 60000 from by omega) ?_
  try refine R_top (y := nI _) (by assumption) ?_
  refine R_virt rfl rfl rfl rfl rfl rfl rfl (Nat.le_of_ble_eq_true rfl) (fun _ q => by cases q) (r_push (by first | assumption | rfl) (by omega)) ?_
  refine R_aload_n rfl rfl ?_
  refine R_aload_n rfl rfl ?_
  refine R_getI rfl rfl (Or.inl rfl) ?_
  try refine R_top (y := nI _) (by assumption) ?_
  refine R_iconst (y := nI 1) rfl (by decide) ?_
  first | refine R_iaddN rfl ?_ | refine R_iadd rfl ?_
  refine R_virt rfl rfl rfl rfl rfl rfl rfl (Nat.le_of_ble_eq_true rfl) (fun _ q => by cases q) (r_well (by assumption)) ?_
  try refine R_top (y := nI _) (by assumption) ?_
  exact R_iret rfl rfl (by first | trivial | exact Or.inl rfl | exact Or.inr rfl | assumption) ⟨rfl, rfl⟩
def shf (M : Mem) (b e : Nat) : Mem := fun k => if k = 34 ∨ k = 35 ∨ k = 36 then (fun j => if b ≤ j ∧ j < e then M k (j + 1) else M k j) else M k
theorem shf_0 (M : Mem) (b : Nat) : shf M b b = M := by
  funext k j
  unfold shf
  split
  · exact if_neg (by omega)
  · rfl
theorem shf_at {M : Mem} {b e k j : Nat} (h : e ≤ j) : shf M b e k j = M k j := by
  unfold shf
  split
  · exact if_neg (by omega)
  · rfl
theorem shf_s {M : Mem} {b e : Nat} (h : b ≤ e) : up2 (up2 (up2 (shf M b e) 34 e (M 34 (e + 1))) 35 e (M 35 (e + 1))) 36 e (M 36 (e + 1)) = shf M b (e + 1) := by
  funext k j
  have base : ∀ k', (k' = 34 ∨ k' = 35 ∨ k' = 36) → upd (shf M b e k') e (M k' (e + 1)) j = shf M b (e + 1) k' j := by
    intro k' hk'
    unfold upd shf
    rw [if_pos hk', if_pos hk']
    by_cases hj : j = e
    · subst hj
      rw [if_pos rfl]
      exact (if_pos (by omega)).symm
    · rw [if_neg hj]
      by_cases h2 : b ≤ j ∧ j < e
      · exact (if_pos h2).trans (if_pos (by omega)).symm
      · exact (if_neg h2).trans (if_neg (by omega)).symm
  by_cases h6 : k = 36
  · subst h6; exact base 36 (by omega)
  · by_cases h5 : k = 35
    · subst h5; exact base 35 (by omega)
    · by_cases h4 : k = 34
      · subst h4; exact base 34 (by omega)
      · unfold up2
        rw [if_neg h6, if_neg h5, if_neg h4]
        unfold shf
        rw [if_neg (by omega), if_neg (by omega)]
theorem r_drop3 {d : Nat} {M : Mem} {p : Nat} {x : Int32} (hp : M 14 0 = nI p) (hp1 : p ≤ 1000) (hp0 : 0 < p) (hk : ¬ M 12 (p - 1 - 0) = nI 2) : CalR (d + 3) j_X9_drop [.ref 0, .int x] M (some (.int (nI 3))) (up2 M 9 0 (nI 3)) := by
  refine CalR_of (md := md_X9_drop) (d := d + 2) rfl (Nat.le_of_ble_eq_true rfl) ?_
  show WR (CalR (d + 2)) t_X9_drop 9 (some .int) _ 0 [(0, .ref 0), (1, .int x)] [] _
  refine R_aload_n rfl rfl ?_
  refine R_iconst (y := nI 0) rfl (by decide) ?_
  refine R_virt rfl rfl rfl rfl rfl rfl rfl (Nat.le_of_ble_eq_true rfl) (fun _ q => by cases q) (r_topKind (by first | assumption | rfl) (by omega) (by omega)) ?_
  try refine R_top (y := nI _) (by assumption) ?_
  refine R_iconst (y := nI 2) rfl (by decide) ?_
  refine R_icF rfl (by first | assumption | exact icF (by decide) | exact ic_F (by omega) (by omega) (by simp only [icN, not_true_eq_false, not_false_eq_true] <;> omega) | exact ic_F0 (by omega) (by simp only [icN, not_true_eq_false, not_false_eq_true] <;> omega)) ?_
  refine R_aload_n rfl rfl ?_
  refine R_iconst (y := nI 3) rfl (by decide) ?_
  refine R_virt rfl rfl rfl rfl rfl rfl rfl (Nat.le_of_ble_eq_true rfl) (fun _ q => by cases q) (r_ends) ?_
  try refine R_top (y := nI _) (by assumption) ?_
  exact R_iret rfl rfl (by first | trivial | exact Or.inl rfl | exact Or.inr rfl | assumption) ⟨rfl, rfl⟩
theorem r_drop2 {d : Nat} {M : Mem} {p i n : Nat} {x : Int32} (hp : M 14 0 = nI p) (hp1 : p ≤ 1000) (hp0 : 0 < p) (hk : M 12 (p - 1 - 0) = nI 2) (hi : M 13 (p - 1 - 0) = nI i) (hi1 : i < 1500) (hn : M 32 i = nI n) (hn4 : n ≤ 40) (ho : osl M i x = none) : CalR (d + 3) j_X9_drop [.ref 0, .int x] M (some (.int (nI 2))) (up2 M 9 0 (nI 2)) := by
  have hO : CalR (d + 2) j_X9_ownSlot [.ref 0, .int (nI i), .int x] M (some (.int (-1))) M := by
    have := r_ownSlot (d := d + 1) (x := x) hi1 hn hn4
    unfold oslV at this
    rw [ho] at this
    exact this
  refine CalR_of (md := md_X9_drop) (d := d + 2) rfl (Nat.le_of_ble_eq_true rfl) ?_
  show WR (CalR (d + 2)) t_X9_drop 9 (some .int) _ 0 [(0, .ref 0), (1, .int x)] [] _
  refine R_aload_n rfl rfl ?_
  refine R_iconst (y := nI 0) rfl (by decide) ?_
  refine R_virt rfl rfl rfl rfl rfl rfl rfl (Nat.le_of_ble_eq_true rfl) (fun _ q => by cases q) (r_topKind (by first | assumption | rfl) (by omega) (by omega)) ?_
  try refine R_top (y := nI _) (by assumption) ?_
  refine R_iconst (y := nI 2) rfl (by decide) ?_
  refine R_icT (pc' := 15) rfl rfl (by first | assumption | exact icT (by decide) | exact ic_T (by omega) (by omega) (by simp only [icN, not_true_eq_false, not_false_eq_true] <;> omega) | exact ic_T0 (by omega) (by simp only [icN, not_true_eq_false, not_false_eq_true] <;> omega)) ?_
  refine R_aload_n rfl rfl ?_
  refine R_iconst (y := nI 0) rfl (by decide) ?_
  refine R_virt rfl rfl rfl rfl rfl rfl rfl (Nat.le_of_ble_eq_true rfl) (fun _ q => by cases q) (r_topNumber (by first | assumption | rfl) (by omega) (by omega)) ?_
  try refine R_top (y := nI _) (by assumption) ?_
  refine R_istore_n (lv' := [(2, _), (0, _), (1, _)]) rfl rfl ?_
  refine R_aload_n rfl rfl ?_
  refine R_iload_n rfl rfl ?_
  refine R_iload_n rfl rfl ?_
  refine R_virt rfl rfl rfl rfl rfl rfl rfl (Nat.le_of_ble_eq_true rfl) (fun _ q => by cases q) (hO) ?_
  try refine R_top (y := nI _) (by assumption) ?_
  refine R_istore_n (lv' := [(3, _), (2, _), (0, _), (1, _)]) rfl rfl ?_
  refine R_iload_n rfl rfl ?_
  refine R_ifF rfl (by first | assumption | exact icF (by decide) | exact ic_F (by omega) (by omega) (by simp only [icN, not_true_eq_false, not_false_eq_true] <;> omega) | exact ic_F0 (by omega) (by simp only [icN, not_true_eq_false, not_false_eq_true] <;> omega)) ?_
  refine R_aload_n rfl rfl ?_
  refine R_iconst (y := nI 2) rfl (by decide) ?_
  refine R_virt rfl rfl rfl rfl rfl rfl rfl (Nat.le_of_ble_eq_true rfl) (fun _ q => by cases q) (r_ends) ?_
  try refine R_top (y := nI _) (by assumption) ?_
  exact R_iret rfl rfl (by first | trivial | exact Or.inl rfl | exact Or.inr rfl | assumption) ⟨rfl, rfl⟩
/-- behind a DROP of the slot sl of the place i, of n slots -/
def drpM (M : Mem) (p a s i n sl : Nat) : Mem := welM (lowM (up2 (if M 30 i = 0 then up2 (shf (up2 M 32 i (nI (n - 1))) (40 * i + sl) (40 * i + (n - 1))) 41 0 (M 41 0 - nI 1) else up2 (shf (up2 M 32 i (nI (n - 1))) (40 * i + sl) (40 * i + (n - 1))) 42 0 (M 42 0 - nI 1)) 33 i (nI (s + 1))) (p - 1)) (nI (a + 1)) s
theorem r_drop {d : Nat} {M : Mem} {p a s i n sl : Nat} {x : Int32} (hp : M 14 0 = nI p) (hp1 : p ≤ 1000) (hp0 : 0 < p) (ha : M 10 0 = nI a) (hs : M 11 0 = nI s) (hk : M 12 (p - 1 - 0) = nI 2) (hi : M 13 (p - 1 - 0) = nI i) (hi1 : i < 1500) (hn : M 32 i = nI n) (hn4 : n ≤ 40) (ho : osl M i x = some sl) : CalR (d + 3) j_X9_drop [.ref 0, .int x] M (some (.int 0)) (drpM M p a s i n sl) := by
  have hsl := osl_lt hn hn4 ho
  have hO : CalR (d + 2) j_X9_ownSlot [.ref 0, .int (nI i), .int x] M (some (.int (nI (40 * i + sl)))) M := by
    have := r_ownSlot (d := d + 1) (x := x) hi1 hn hn4
    unfold oslV at this
    rw [ho] at this
    exact this
  have h30 : M 30 i = 0 ∨ ¬ M 30 i = 0 := Classical.em _
  refine CalR_of (md := md_X9_drop) (d := d + 2) rfl (Nat.le_of_ble_eq_true rfl) ?_
  show WR (CalR (d + 2)) t_X9_drop 9 (some .int) _ 0 [(0, .ref 0), (1, .int x)] [] _
  unfold drpM
  refine R_aload_n rfl rfl ?_
  refine R_iconst (y := nI 0) rfl (by decide) ?_
  refine R_virt rfl rfl rfl rfl rfl rfl rfl (Nat.le_of_ble_eq_true rfl) (fun _ q => by cases q) (r_topKind (by first | assumption | rfl) (by omega) (by omega)) ?_
  try refine R_top (y := nI _) (by assumption) ?_
  refine R_iconst (y := nI 2) rfl (by decide) ?_
  refine R_icT (pc' := 15) rfl rfl (by first | assumption | exact icT (by decide) | exact ic_T (by omega) (by omega) (by simp only [icN, not_true_eq_false, not_false_eq_true] <;> omega) | exact ic_T0 (by omega) (by simp only [icN, not_true_eq_false, not_false_eq_true] <;> omega)) ?_
  refine R_aload_n rfl rfl ?_
  refine R_iconst (y := nI 0) rfl (by decide) ?_
  refine R_virt rfl rfl rfl rfl rfl rfl rfl (Nat.le_of_ble_eq_true rfl) (fun _ q => by cases q) (r_topNumber (by first | assumption | rfl) (by omega) (by omega)) ?_
  try refine R_top (y := nI _) (by assumption) ?_
  refine R_istore_n (lv' := [(2, _), (0, _), (1, _)]) rfl rfl ?_
  refine R_aload_n rfl rfl ?_
  refine R_iload_n rfl rfl ?_
  refine R_iload_n rfl rfl ?_
  refine R_virt rfl rfl rfl rfl rfl rfl rfl (Nat.le_of_ble_eq_true rfl) (fun _ q => by cases q) (hO) ?_
  try refine R_top (y := nI _) (by assumption) ?_
  refine R_istore_n (lv' := [(3, _), (2, _), (0, _), (1, _)]) rfl rfl ?_
  refine R_iload_n rfl rfl ?_
  refine R_ifT (pc' := 38) rfl rfl (by first | assumption | exact icT (by decide) | exact ic_T (by omega) (by omega) (by simp only [icN, not_true_eq_false, not_false_eq_true] <;> omega) | exact ic_T0 (by omega) (by simp only [icN, not_true_eq_false, not_false_eq_true] <;> omega)) ?_
  refine R_aload_n rfl rfl ?_
  refine R_getA rfl rfl (Or.inl rfl) ?_
  refine R_iload_n rfl rfl ?_
  refine R_dup2 rfl ?_
  refine R_iald rfl rfl rfl (show _ < 1500 from by omega) ?_
  try refine R_top (y := nI _) (by assumption) ?_
  refine R_iconst (y := nI 1) rfl (by decide) ?_
  first | refine R_isubN rfl (by omega) ?_ | refine R_isub rfl ?_
  refine R_iast rfl rfl rfl (show _ < 1500 from by omega) ?_
  refine R_iload_n rfl rfl ?_
  refine R_istore (lv' := [(4, _), (3, _), (2, _), (0, _), (1, _)]) rfl rfl ?_
  have k32 : (up2 M 32 i (nI (n - 1))) 32 i = nI (n - 1) := if_pos rfl
  have k14 : (up2 M 32 i (nI (n - 1))) 14 0 = nI p := hp
  have k10 : (up2 M 32 i (nI (n - 1))) 10 0 = nI a := ha
  have k11 : (up2 M 32 i (nI (n - 1))) 11 0 = nI s := hs
  have k30 : (up2 M 32 i (nI (n - 1))) 30 i = 0 ∨ ¬ (up2 M 32 i (nI (n - 1))) 30 i = 0 := h30
  rw [show M 41 0 = (up2 M 32 i (nI (n - 1))) 41 0 from rfl, show M 42 0 = (up2 M 32 i (nI (n - 1))) 42 0 from rfl, show M 30 i = (up2 M 32 i (nI (n - 1))) 30 i from rfl]
  generalize up2 M 32 i (nI (n - 1)) = M1 at k32 k14 k10 k11 k30 ⊢
  refine WR_eq (shf_0 M1 (40 * i + sl)).symm ?_
  have lp : ∀ e, e ≤ 40 * i + (n - 1) → 40 * i + sl ≤ e → WR (CalR (d + 2)) t_X9_drop 9 (some .int) (fun v' M' => v' = some (.int 0) ∧ M' = welM (lowM (up2 (if M1 30 i = 0 then up2 (shf M1 (40 * i + sl) (40 * i + (n - 1))) 41 0 (M1 41 0 - nI 1) else up2 (shf M1 (40 * i + sl) (40 * i + (n - 1))) 42 0 (M1 42 0 - nI 1)) 33 i (nI (s + 1))) (p - 1)) (nI (a + 1)) s) 51 [(4, .int (nI e)), (3, .int (nI (40 * i + sl))), (2, .int (nI i)), (0, .ref 0), (1, .int x)] [] (shf M1 (40 * i + sl) e) := by
    refine dn_up (P := fun e => 40 * i + sl ≤ e → WR (CalR (d + 2)) t_X9_drop 9 (some .int) (fun v' M' => v' = some (.int 0) ∧ M' = welM (lowM (up2 (if M1 30 i = 0 then up2 (shf M1 (40 * i + sl) (40 * i + (n - 1))) 41 0 (M1 41 0 - nI 1) else up2 (shf M1 (40 * i + sl) (40 * i + (n - 1))) 42 0 (M1 42 0 - nI 1)) 33 i (nI (s + 1))) (p - 1)) (nI (a + 1)) s) 51 [(4, .int (nI e)), (3, .int (nI (40 * i + sl))), (2, .int (nI i)), (0, .ref 0), (1, .int x)] [] (shf M1 (40 * i + sl) e)) (N := 40 * i + (n - 1)) ?_ ?_
    · intro _
      have k32' : (shf M1 (40 * i + sl) (40 * i + (n - 1))) 32 i = nI (n - 1) := k32
      have k14' : (shf M1 (40 * i + sl) (40 * i + (n - 1))) 14 0 = nI p := k14
      have k10' : (shf M1 (40 * i + sl) (40 * i + (n - 1))) 10 0 = nI a := k10
      have k11' : (shf M1 (40 * i + sl) (40 * i + (n - 1))) 11 0 = nI s := k11
      rcases k30 with h | h
      · rw [if_pos h]
        have h' : ¬ ¬ (shf M1 (40 * i + sl) (40 * i + (n - 1))) 30 i = 0 := fun q => q h
        rw [show M1 41 0 = (shf M1 (40 * i + sl) (40 * i + (n - 1))) 41 0 from rfl]
        generalize shf M1 (40 * i + sl) (40 * i + (n - 1)) = M2 at k32' k14' k10' k11' h' ⊢
        have h'' : M2 30 i = 0 := Classical.byContradiction h'
        refine R_iload rfl rfl ?_
        refine R_bipush (y := nI 40) rfl (by decide) ?_
        refine R_iload_n rfl rfl ?_
        first | refine R_imulN rfl ?_ | refine R_imul rfl ?_
        refine R_aload_n rfl rfl ?_
        refine R_getA rfl rfl (Or.inl rfl) ?_
        refine R_iload_n rfl rfl ?_
        refine R_iald rfl rfl rfl (show _ < 1500 from by omega) ?_
        try refine R_top (y := nI _) (by assumption) ?_
        first | refine R_iaddN rfl ?_ | refine R_iadd rfl ?_
        refine R_icT (pc' := 121) rfl rfl (by first | assumption | exact icT (by decide) | exact ic_T (by omega) (by omega) (by simp only [icN, not_true_eq_false, not_false_eq_true] <;> omega) | exact ic_T0 (by omega) (by simp only [icN, not_true_eq_false, not_false_eq_true] <;> omega)) ?_
        refine R_aload_n rfl rfl ?_
        refine R_getA rfl rfl (Or.inr rfl) ?_
        refine R_iload_n rfl rfl ?_
        refine R_bald rfl rfl rfl (show _ < 1500 from by omega) ?_
        try refine R_top (y := nI _) (by assumption) ?_
        refine R_ifT (pc' := 143) rfl rfl (by first | assumption | exact icT (by decide) | exact ic_T (by omega) (by omega) (by simp only [icN, not_true_eq_false, not_false_eq_true] <;> omega) | exact ic_T0 (by omega) (by simp only [icN, not_true_eq_false, not_false_eq_true] <;> omega)) ?_
        refine R_aload_n rfl rfl ?_
        refine R_dup rfl ?_
        refine R_getI rfl rfl (Or.inl rfl) ?_
        try refine R_top (y := nI _) (by assumption) ?_
        refine R_iconst (y := nI 1) rfl (by decide) ?_
        first | refine R_isubN rfl (by omega) ?_ | refine R_isub rfl ?_
        refine R_put rfl rfl rfl ?_
        refine R_aload_n rfl rfl ?_
        refine R_iload_n rfl rfl ?_
        refine R_virt rfl rfl rfl rfl rfl rfl rfl (Nat.le_of_ble_eq_true rfl) (fun _ q => by cases q) (r_touch (by omega) (by assumption)) ?_
        refine R_aload_n rfl rfl ?_
        refine R_dup rfl ?_
        refine R_getI rfl rfl (Or.inl rfl) ?_
        try refine R_top (y := nI _) (by assumption) ?_
        refine R_iconst (y := nI 1) rfl (by decide) ?_
        first | refine R_isubN rfl (by omega) ?_ | refine R_isub rfl ?_
        refine R_put rfl rfl rfl ?_
        refine R_aload_n rfl rfl ?_
        refine R_aload_n rfl rfl ?_
        refine R_getI rfl rfl (Or.inl rfl) ?_
        try refine R_top (y := nI _) (by assumption) ?_
        refine R_iconst (y := nI 1) rfl (by decide) ?_
        first | refine R_iaddN rfl ?_ | refine R_iadd rfl ?_
        refine R_virt rfl rfl rfl rfl rfl rfl rfl (Nat.le_of_ble_eq_true rfl) (fun _ q => by cases q) (r_well (by assumption)) ?_
        try refine R_top (y := nI _) (by assumption) ?_
        exact R_iret rfl rfl (by first | trivial | exact Or.inl rfl | exact Or.inr rfl | assumption) ⟨rfl, rfl⟩
      · rw [if_neg h]
        have h' : ¬ (shf M1 (40 * i + sl) (40 * i + (n - 1))) 30 i = 0 := h
        rw [show M1 42 0 = (shf M1 (40 * i + sl) (40 * i + (n - 1))) 42 0 from rfl]
        generalize shf M1 (40 * i + sl) (40 * i + (n - 1)) = M2 at k32' k14' k10' k11' h' ⊢
        refine R_iload rfl rfl ?_
        refine R_bipush (y := nI 40) rfl (by decide) ?_
        refine R_iload_n rfl rfl ?_
        first | refine R_imulN rfl ?_ | refine R_imul rfl ?_
        refine R_aload_n rfl rfl ?_
        refine R_getA rfl rfl (Or.inl rfl) ?_
        refine R_iload_n rfl rfl ?_
        refine R_iald rfl rfl rfl (show _ < 1500 from by omega) ?_
        try refine R_top (y := nI _) (by assumption) ?_
        first | refine R_iaddN rfl ?_ | refine R_iadd rfl ?_
        refine R_icT (pc' := 121) rfl rfl (by first | assumption | exact icT (by decide) | exact ic_T (by omega) (by omega) (by simp only [icN, not_true_eq_false, not_false_eq_true] <;> omega) | exact ic_T0 (by omega) (by simp only [icN, not_true_eq_false, not_false_eq_true] <;> omega)) ?_
        refine R_aload_n rfl rfl ?_
        refine R_getA rfl rfl (Or.inr rfl) ?_
        refine R_iload_n rfl rfl ?_
        refine R_bald rfl rfl rfl (show _ < 1500 from by omega) ?_
        try refine R_top (y := nI _) (by assumption) ?_
        refine R_ifF rfl (h') ?_
        refine R_aload_n rfl rfl ?_
        refine R_dup rfl ?_
        refine R_getI rfl rfl (Or.inl rfl) ?_
        try refine R_top (y := nI _) (by assumption) ?_
        refine R_iconst (y := nI 1) rfl (by decide) ?_
        first | refine R_isubN rfl (by omega) ?_ | refine R_isub rfl ?_
        refine R_put rfl rfl rfl ?_
        refine R_goto (pc' := 153) rfl rfl ?_
        refine R_aload_n rfl rfl ?_
        refine R_iload_n rfl rfl ?_
        refine R_virt rfl rfl rfl rfl rfl rfl rfl (Nat.le_of_ble_eq_true rfl) (fun _ q => by cases q) (r_touch (by omega) (by assumption)) ?_
        refine R_aload_n rfl rfl ?_
        refine R_dup rfl ?_
        refine R_getI rfl rfl (Or.inl rfl) ?_
        try refine R_top (y := nI _) (by assumption) ?_
        refine R_iconst (y := nI 1) rfl (by decide) ?_
        first | refine R_isubN rfl (by omega) ?_ | refine R_isub rfl ?_
        refine R_put rfl rfl rfl ?_
        refine R_aload_n rfl rfl ?_
        refine R_aload_n rfl rfl ?_
        refine R_getI rfl rfl (Or.inl rfl) ?_
        try refine R_top (y := nI _) (by assumption) ?_
        refine R_iconst (y := nI 1) rfl (by decide) ?_
        first | refine R_iaddN rfl ?_ | refine R_iadd rfl ?_
        refine R_virt rfl rfl rfl rfl rfl rfl rfl (Nat.le_of_ble_eq_true rfl) (fun _ q => by cases q) (r_well (by assumption)) ?_
        try refine R_top (y := nI _) (by assumption) ?_
        exact R_iret rfl rfl (by first | trivial | exact Or.inl rfl | exact Or.inr rfl | assumption) ⟨rfl, rfl⟩
    · intro e he nx hb
      have k32' : (shf M1 (40 * i + sl) e) 32 i = nI (n - 1) := k32
      have e4 : (shf M1 (40 * i + sl) e) 34 (e + 1) = M1 34 (e + 1) := shf_at (by omega)
      have e5 : (shf M1 (40 * i + sl) e) 35 (e + 1) = M1 35 (e + 1) := shf_at (by omega)
      have e6 : (shf M1 (40 * i + sl) e) 36 (e + 1) = M1 36 (e + 1) := shf_at (by omega)
      have nx := nx (by omega)
      rw [← shf_s hb, ← e4, ← e5, ← e6] at nx
      generalize shf M1 (40 * i + sl) e = M2 at k32' nx ⊢
      refine R_iload rfl rfl ?_
      refine R_bipush (y := nI 40) rfl (by decide) ?_
      refine R_iload_n rfl rfl ?_
      first | refine R_imulN rfl ?_ | refine R_imul rfl ?_
      refine R_aload_n rfl rfl ?_
      refine R_getA rfl rfl (Or.inl rfl) ?_
      refine R_iload_n rfl rfl ?_
      refine R_iald rfl rfl rfl (show _ < 1500 from by omega) ?_
      try refine R_top (y := nI _) (by assumption) ?_
      first | refine R_iaddN rfl ?_ | refine R_iadd rfl ?_
      refine R_icF rfl (by first | assumption | exact icF (by decide) | exact ic_F (by omega) (by omega) (by simp only [icN, not_true_eq_false, not_false_eq_true] <;> omega) | exact ic_F0 (by omega) (by simp only [icN, not_true_eq_false, not_false_eq_true] <;> omega)) ?_
      refine R_aload_n rfl rfl ?_
      refine R_getA rfl rfl (Or.inl rfl) ?_
      refine R_iload rfl rfl ?_
      refine R_aload_n rfl rfl ?_
      refine R_getA rfl rfl (Or.inl rfl) ?_
      refine R_iload rfl rfl ?_
      refine R_iconst (y := nI 1) rfl (by decide) ?_
      first | refine R_iaddN rfl ?_ | refine R_iadd rfl ?_
      refine R_iald rfl rfl rfl (show _ < 60000 from by omega) ?_
      try refine R_top (y := nI _) (by assumption) ?_
      refine R_iast rfl rfl rfl (show _ < 60000 from by omega) ?_
      refine R_aload_n rfl rfl ?_
      refine R_getA rfl rfl (Or.inl rfl) ?_
      refine R_iload rfl rfl ?_
      refine R_aload_n rfl rfl ?_
      refine R_getA rfl rfl (Or.inl rfl) ?_
      refine R_iload rfl rfl ?_
      refine R_iconst (y := nI 1) rfl (by decide) ?_
      first | refine R_iaddN rfl ?_ | refine R_iadd rfl ?_
      refine R_iald rfl rfl rfl (show _ < 60000 from by omega) ?_
      try refine R_top (y := nI _) (by assumption) ?_
      refine R_iast rfl rfl rfl (show _ < 60000 from by omega) ?_
      refine R_aload_n rfl rfl ?_
      refine R_getA rfl rfl (Or.inl rfl) ?_
      refine R_iload rfl rfl ?_
      refine R_aload_n rfl rfl ?_
      refine R_getA rfl rfl (Or.inl rfl) ?_
      refine R_iload rfl rfl ?_
      refine R_iconst (y := nI 1) rfl (by decide) ?_
      first | refine R_iaddN rfl ?_ | refine R_iadd rfl ?_
      refine R_iald rfl rfl rfl (show _ < 60000 from by omega) ?_
      try refine R_top (y := nI _) (by assumption) ?_
      refine R_iast rfl rfl rfl (show _ < 60000 from by omega) ?_
      refine R_iinc (lv' := [(4, _), (3, _), (2, _), (0, _), (1, _)]) rfl rfl (by exact nI_1 _) rfl ?_
      refine R_goto (pc' := 51) rfl rfl ?_
      exact nx
  exact lp _ (by omega) (Nat.le_refl _)
/-- the chain from c comes to the place i -/
def mts (M : Mem) (i : Nat) : Nat → Int32 → Bool
  | 0, _ => false
  | n + 1, c => if c < 0 then false else if c = nI i then true else mts M i n (M 31 c.toNatClampNeg)
def adpM (M : Mem) (p a s i : Nat) (c : Int32) : Mem := welM (lowM (if M 31 i = c then M else up2 (up2 M 31 i c) 33 i (nI (s + 1))) (p - 2)) (nI (a + 1)) s
theorem r_adopt3 {d : Nat} {M : Mem} {p : Nat} (hp : M 14 0 = nI p) (hp1 : p ≤ 1000) (hp0 : 1 < p) (hk : ¬ (M 12 (p - 1 - 1) = nI 2 ∧ (M 12 (p - 1 - 0) = nI 2 ∨ M 12 (p - 1 - 0) = 0))) : CalR (d + 3) j_X9_adopt [.ref 0] M (some (.int (nI 3))) (up2 M 9 0 (nI 3)) := by
  by_cases h1 : M 12 (p - 1 - 1) = nI 2
  · have h2 : ¬ M 12 (p - 1 - 0) = nI 2 := fun q => hk ⟨h1, Or.inl q⟩
    have h3 : ¬ M 12 (p - 1 - 0) = 0 := fun q => hk ⟨h1, Or.inr q⟩
    refine CalR_of (md := md_X9_adopt) (d := d + 2) rfl (Nat.le_of_ble_eq_true rfl) ?_
    show WR (CalR (d + 2)) t_X9_adopt 9 (some .int) _ 0 [(0, .ref 0)] [] _
    refine R_aload_n rfl rfl ?_
    refine R_iconst (y := nI 1) rfl (by decide) ?_
    refine R_virt rfl rfl rfl rfl rfl rfl rfl (Nat.le_of_ble_eq_true rfl) (fun _ q => by cases q) (r_topKind (by first | assumption | rfl) (by omega) (by omega)) ?_
    try refine R_top (y := nI _) (by assumption) ?_
    refine R_iconst (y := nI 2) rfl (by decide) ?_
    refine R_icF rfl (by first | assumption | exact icF (by decide) | exact ic_F (by omega) (by omega) (by simp only [icN, not_true_eq_false, not_false_eq_true] <;> omega) | exact ic_F0 (by omega) (by simp only [icN, not_true_eq_false, not_false_eq_true] <;> omega)) ?_
    refine R_aload_n rfl rfl ?_
    refine R_iconst (y := nI 0) rfl (by decide) ?_
    refine R_virt rfl rfl rfl rfl rfl rfl rfl (Nat.le_of_ble_eq_true rfl) (fun _ q => by cases q) (r_topKind (by first | assumption | rfl) (by omega) (by omega)) ?_
    try refine R_top (y := nI _) (by assumption) ?_
    refine R_iconst (y := nI 2) rfl (by decide) ?_
    refine R_icF rfl (by first | assumption | exact icF (by decide) | exact ic_F (by omega) (by omega) (by simp only [icN, not_true_eq_false, not_false_eq_true] <;> omega) | exact ic_F0 (by omega) (by simp only [icN, not_true_eq_false, not_false_eq_true] <;> omega)) ?_
    refine R_aload_n rfl rfl ?_
    refine R_iconst (y := nI 0) rfl (by decide) ?_
    refine R_virt rfl rfl rfl rfl rfl rfl rfl (Nat.le_of_ble_eq_true rfl) (fun _ q => by cases q) (r_topKind (by first | assumption | rfl) (by omega) (by omega)) ?_
    try refine R_top (y := nI _) (by assumption) ?_
    refine R_ifF rfl (by first | assumption | exact icF (by decide) | exact ic_F (by omega) (by omega) (by simp only [icN, not_true_eq_false, not_false_eq_true] <;> omega) | exact ic_F0 (by omega) (by simp only [icN, not_true_eq_false, not_false_eq_true] <;> omega)) ?_
    refine R_aload_n rfl rfl ?_
    refine R_iconst (y := nI 3) rfl (by decide) ?_
    refine R_virt rfl rfl rfl rfl rfl rfl rfl (Nat.le_of_ble_eq_true rfl) (fun _ q => by cases q) (r_ends) ?_
    try refine R_top (y := nI _) (by assumption) ?_
    exact R_iret rfl rfl (by first | trivial | exact Or.inl rfl | exact Or.inr rfl | assumption) ⟨rfl, rfl⟩
  · refine CalR_of (md := md_X9_adopt) (d := d + 2) rfl (Nat.le_of_ble_eq_true rfl) ?_
    show WR (CalR (d + 2)) t_X9_adopt 9 (some .int) _ 0 [(0, .ref 0)] [] _
    refine R_aload_n rfl rfl ?_
    refine R_iconst (y := nI 1) rfl (by decide) ?_
    refine R_virt rfl rfl rfl rfl rfl rfl rfl (Nat.le_of_ble_eq_true rfl) (fun _ q => by cases q) (r_topKind (by first | assumption | rfl) (by omega) (by omega)) ?_
    try refine R_top (y := nI _) (by assumption) ?_
    refine R_iconst (y := nI 2) rfl (by decide) ?_
    refine R_icT (pc' := 26) rfl rfl (by first | assumption | exact icT (by decide) | exact ic_T (by omega) (by omega) (by simp only [icN, not_true_eq_false, not_false_eq_true] <;> omega) | exact ic_T0 (by omega) (by simp only [icN, not_true_eq_false, not_false_eq_true] <;> omega)) ?_
    refine R_aload_n rfl rfl ?_
    refine R_iconst (y := nI 3) rfl (by decide) ?_
    refine R_virt rfl rfl rfl rfl rfl rfl rfl (Nat.le_of_ble_eq_true rfl) (fun _ q => by cases q) (r_ends) ?_
    try refine R_top (y := nI _) (by assumption) ?_
    exact R_iret rfl rfl (by first | trivial | exact Or.inl rfl | exact Or.inr rfl | assumption) ⟨rfl, rfl⟩
theorem r_adoptL {d : Nat} {M : Mem} {lv : Nat → Prop} {rk : Nat → Nat} {p a s i : Nat} {c0 : Int32} (hd : dwn M lv rk) (hp : M 14 0 = nI p) (hp1 : p ≤ 1000) (hp0 : 1 < p) (ha : M 10 0 = nI a) (hs : M 11 0 = nI s) (hi1 : i < 1500) : ∀ (N : Nat) (c : Int32), (c = -1 ∨ ∃ i, lv i ∧ c = nI i ∧ rk i < N) → WR (CalR (d + 2)) t_X9_adopt 9 (some .int) (fun v' M' => (mts M i (N + 1) c = true ∧ v' = some (.int (nI 9)) ∧ M' = up2 M 9 0 (nI 9)) ∨ (mts M i (N + 1) c = false ∧ v' = some (.int 0) ∧ M' = adpM M p a s i c0)) 59 [(3, .int c), (2, .int c0), (1, .int (nI i)), (0, .ref 0)] [] M := by
  have fin : ∀ Q : Option Value → Mem → Prop, Q (some (.int 0)) (adpM M p a s i c0) → WR (CalR (d + 2)) t_X9_adopt 9 (some .int) Q 85 [(3, .int (-1)), (2, .int c0), (1, .int (nI i)), (0, .ref 0)] [] M := by
    intro Q hQ
    unfold adpM at hQ
    by_cases hm : M 31 i = c0
    · rw [if_pos hm] at hQ
      refine R_aload_n rfl rfl ?_
      refine R_getA rfl rfl (Or.inl rfl) ?_
      refine R_iload_n rfl rfl ?_
      refine R_iald rfl rfl rfl (show _ < 1500 from hi1) ?_
      refine R_iload_n rfl rfl ?_
      refine R_icT (pc' := 107) rfl rfl (hm) ?_
      refine R_aload_n rfl rfl ?_
      refine R_aload_n rfl rfl ?_
      refine R_getI rfl rfl (Or.inl rfl) ?_
      try refine R_top (y := nI _) (by assumption) ?_
      refine R_iconst (y := nI 2) rfl (by decide) ?_
      first | refine R_isubN rfl (by omega) ?_ | refine R_isub rfl ?_
      refine R_put rfl rfl rfl ?_
      refine R_aload_n rfl rfl ?_
      refine R_aload_n rfl rfl ?_
      refine R_getI rfl rfl (Or.inl rfl) ?_
      try refine R_top (y := nI _) (by assumption) ?_
      refine R_iconst (y := nI 1) rfl (by decide) ?_
      first | refine R_iaddN rfl ?_ | refine R_iadd rfl ?_
      refine R_virt rfl rfl rfl rfl rfl rfl rfl (Nat.le_of_ble_eq_true rfl) (fun _ q => by cases q) (r_well (by assumption)) ?_
      try refine R_top (y := nI _) (by assumption) ?_
      exact R_iret rfl rfl trivial hQ
    · rw [if_neg hm] at hQ
      refine R_aload_n rfl rfl ?_
      refine R_getA rfl rfl (Or.inl rfl) ?_
      refine R_iload_n rfl rfl ?_
      refine R_iald rfl rfl rfl (show _ < 1500 from hi1) ?_
      refine R_iload_n rfl rfl ?_
      refine R_icF rfl (hm) ?_
      refine R_aload_n rfl rfl ?_
      refine R_getA rfl rfl (Or.inl rfl) ?_
      refine R_iload_n rfl rfl ?_
      refine R_iload_n rfl rfl ?_
      refine R_iast rfl rfl rfl (show _ < 1500 from by omega) ?_
      refine R_aload_n rfl rfl ?_
      refine R_iload_n rfl rfl ?_
      refine R_virt rfl rfl rfl rfl rfl rfl rfl (Nat.le_of_ble_eq_true rfl) (fun _ q => by cases q) (r_touch (by omega) (by assumption)) ?_
      refine R_aload_n rfl rfl ?_
      refine R_aload_n rfl rfl ?_
      refine R_getI rfl rfl (Or.inl rfl) ?_
      try refine R_top (y := nI _) (by assumption) ?_
      refine R_iconst (y := nI 2) rfl (by decide) ?_
      first | refine R_isubN rfl (by omega) ?_ | refine R_isub rfl ?_
      refine R_put rfl rfl rfl ?_
      refine R_aload_n rfl rfl ?_
      refine R_aload_n rfl rfl ?_
      refine R_getI rfl rfl (Or.inl rfl) ?_
      try refine R_top (y := nI _) (by assumption) ?_
      refine R_iconst (y := nI 1) rfl (by decide) ?_
      first | refine R_iaddN rfl ?_ | refine R_iadd rfl ?_
      refine R_virt rfl rfl rfl rfl rfl rfl rfl (Nat.le_of_ble_eq_true rfl) (fun _ q => by cases q) (r_well (by assumption)) ?_
      try refine R_top (y := nI _) (by assumption) ?_
      exact R_iret rfl rfl trivial hQ
  intro N
  induction N with
  | zero =>
    intro c hcs
    rcases hcs with rfl | ⟨j, -, -, h⟩
    · refine R_iload_n rfl rfl ?_
      refine R_ifT (pc' := 85) rfl rfl (by first | assumption | exact icT (by decide) | exact ic_T (by omega) (by omega) (by simp only [icN, not_true_eq_false, not_false_eq_true] <;> omega) | exact ic_T0 (by omega) (by simp only [icN, not_true_eq_false, not_false_eq_true] <;> omega)) ?_
      exact fin _ (Or.inr ⟨rfl, rfl, rfl⟩)
    · omega
  | succ N ih =>
    intro c hcs
    rcases hcs with rfl | ⟨j, hj, rfl, hrk⟩
    · refine R_iload_n rfl rfl ?_
      refine R_ifT (pc' := 85) rfl rfl (by first | assumption | exact icT (by decide) | exact ic_T (by omega) (by omega) (by simp only [icN, not_true_eq_false, not_false_eq_true] <;> omega) | exact ic_T0 (by omega) (by simp only [icN, not_true_eq_false, not_false_eq_true] <;> omega)) ?_
      exact fin _ (Or.inr ⟨rfl, rfl, rfl⟩)
    · obtain ⟨hj15, ⟨n, hn4, hn⟩, hpar⟩ := hd j hj
      have hcl : (nI j).toNatClampNeg = j := nI_clamp (by omega)
      have hnn : ¬ nI j < 0 := nI_pos (by omega)
      by_cases hji : j = i
      · subst hji
        have hm : mts M j (N + 1 + 1) (nI j) = true := by rw [mts, if_neg hnn, if_pos rfl]
        refine R_iload_n rfl rfl ?_
        refine R_ifF rfl (by first | assumption | exact icF (by decide) | exact ic_F (by omega) (by omega) (by simp only [icN, not_true_eq_false, not_false_eq_true] <;> omega) | exact ic_F0 (by omega) (by simp only [icN, not_true_eq_false, not_false_eq_true] <;> omega)) ?_
        refine R_iload_n rfl rfl ?_
        refine R_iload_n rfl rfl ?_
        refine R_icF rfl (by first | assumption | exact icF (by decide) | exact ic_F (by omega) (by omega) (by simp only [icN, not_true_eq_false, not_false_eq_true] <;> omega) | exact ic_F0 (by omega) (by simp only [icN, not_true_eq_false, not_false_eq_true] <;> omega)) ?_
        refine R_aload_n rfl rfl ?_
        refine R_bipush (y := nI 9) rfl (by decide) ?_
        refine R_virt rfl rfl rfl rfl rfl rfl rfl (Nat.le_of_ble_eq_true rfl) (fun _ q => by cases q) (r_ends) ?_
        try refine R_top (y := nI _) (by assumption) ?_
        exact R_iret rfl rfl trivial (Or.inl ⟨hm, rfl, rfl⟩)
      · have hne : ¬ nI j = nI i := fun q => hji ((nI_eq (by omega) (by omega)).mp q)
        have hm : mts M i (N + 1 + 1) (nI j) = mts M i (N + 1) (M 31 j) := by rw [mts, if_neg hnn, if_neg hne, hcl]
        rw [hm]
        refine R_iload_n rfl rfl ?_
        refine R_ifF rfl (by first | assumption | exact icF (by decide) | exact ic_F (by omega) (by omega) (by simp only [icN, not_true_eq_false, not_false_eq_true] <;> omega) | exact ic_F0 (by omega) (by simp only [icN, not_true_eq_false, not_false_eq_true] <;> omega)) ?_
        refine R_iload_n rfl rfl ?_
        refine R_iload_n rfl rfl ?_
        refine R_icT (pc' := 75) rfl rfl (by first | assumption | exact icT (by decide) | exact ic_T (by omega) (by omega) (by simp only [icN, not_true_eq_false, not_false_eq_true] <;> omega) | exact ic_T0 (by omega) (by simp only [icN, not_true_eq_false, not_false_eq_true] <;> omega)) ?_
        refine R_aload_n rfl rfl ?_
        refine R_getA rfl rfl (Or.inl rfl) ?_
        refine R_iload_n rfl rfl ?_
        refine R_iald rfl rfl rfl (show _ < 1500 from by omega) ?_
        try refine R_top (y := nI _) (by assumption) ?_
        refine R_istore_n (lv' := [(3, _), (2, _), (1, _), (0, _)]) rfl rfl ?_
        refine R_goto (pc' := 59) rfl rfl ?_
        refine ih (M 31 j) ?_
        rcases hpar with h | ⟨q, h1, h2, h3⟩
        · exact Or.inl h
        · exact Or.inr ⟨q, h1, h2, by omega⟩
theorem r_adopt {d : Nat} {M : Mem} {lv : Nat → Prop} {rk : Nat → Nat} {p a s i N : Nat} {c : Int32} (hd : dwn M lv rk) (hp : M 14 0 = nI p) (hp1 : p ≤ 1000) (hp0 : 1 < p) (ha : M 10 0 = nI a) (hs : M 11 0 = nI s) (hk : M 12 (p - 1 - 1) = nI 2) (hi : M 13 (p - 1 - 1) = nI i) (hi1 : i < 1500) (hk0 : (M 12 (p - 1 - 0) = nI 2 ∧ c = M 13 (p - 1 - 0)) ∨ (M 12 (p - 1 - 0) = nI 0 ∧ c = -1)) (hc : c = -1 ∨ ∃ i, lv i ∧ c = nI i ∧ rk i < N) : CQ (d + 3) j_X9_adopt [.ref 0] M (fun v' M' => (mts M i (N + 1) c = true ∧ v' = some (.int (nI 9)) ∧ M' = up2 M 9 0 (nI 9)) ∨ (mts M i (N + 1) c = false ∧ v' = some (.int 0) ∧ M' = adpM M p a s i c)) := by
  rcases hk0 with ⟨h1, rfl⟩ | ⟨h1, rfl⟩
  · refine CQ_of (md := md_X9_adopt) (d := d + 2) rfl (Nat.le_of_ble_eq_true rfl) ?_
    show WR (CalR (d + 2)) t_X9_adopt 9 (some .int) _ 0 [(0, .ref 0)] [] _
    refine R_aload_n rfl rfl ?_
    refine R_iconst (y := nI 1) rfl (by decide) ?_
    refine R_virt rfl rfl rfl rfl rfl rfl rfl (Nat.le_of_ble_eq_true rfl) (fun _ q => by cases q) (r_topKind (by first | assumption | rfl) (by omega) (by omega)) ?_
    try refine R_top (y := nI _) (by assumption) ?_
    refine R_iconst (y := nI 2) rfl (by decide) ?_
    refine R_icF rfl (by first | assumption | exact icF (by decide) | exact ic_F (by omega) (by omega) (by simp only [icN, not_true_eq_false, not_false_eq_true] <;> omega) | exact ic_F0 (by omega) (by simp only [icN, not_true_eq_false, not_false_eq_true] <;> omega)) ?_
    refine R_aload_n rfl rfl ?_
    refine R_iconst (y := nI 0) rfl (by decide) ?_
    refine R_virt rfl rfl rfl rfl rfl rfl rfl (Nat.le_of_ble_eq_true rfl) (fun _ q => by cases q) (r_topKind (by first | assumption | rfl) (by omega) (by omega)) ?_
    try refine R_top (y := nI _) (by assumption) ?_
    refine R_iconst (y := nI 2) rfl (by decide) ?_
    refine R_icT (pc' := 32) rfl rfl (by first | assumption | exact icT (by decide) | exact ic_T (by omega) (by omega) (by simp only [icN, not_true_eq_false, not_false_eq_true] <;> omega) | exact ic_T0 (by omega) (by simp only [icN, not_true_eq_false, not_false_eq_true] <;> omega)) ?_
    refine R_aload_n rfl rfl ?_
    refine R_iconst (y := nI 1) rfl (by decide) ?_
    refine R_virt rfl rfl rfl rfl rfl rfl rfl (Nat.le_of_ble_eq_true rfl) (fun _ q => by cases q) (r_topNumber (by first | assumption | rfl) (by omega) (by omega)) ?_
    try refine R_top (y := nI _) (by assumption) ?_
    refine R_istore_n (lv' := [(1, _), (0, _)]) rfl rfl ?_
    refine R_aload_n rfl rfl ?_
    refine R_iconst (y := nI 0) rfl (by decide) ?_
    refine R_virt rfl rfl rfl rfl rfl rfl rfl (Nat.le_of_ble_eq_true rfl) (fun _ q => by cases q) (r_topKind (by first | assumption | rfl) (by omega) (by omega)) ?_
    try refine R_top (y := nI _) (by assumption) ?_
    refine R_iconst (y := nI 2) rfl (by decide) ?_
    refine R_icF rfl (by first | assumption | exact icF (by decide) | exact ic_F (by omega) (by omega) (by simp only [icN, not_true_eq_false, not_false_eq_true] <;> omega) | exact ic_F0 (by omega) (by simp only [icN, not_true_eq_false, not_false_eq_true] <;> omega)) ?_
    refine R_aload_n rfl rfl ?_
    refine R_iconst (y := nI 0) rfl (by decide) ?_
    refine R_virt rfl rfl rfl rfl rfl rfl rfl (Nat.le_of_ble_eq_true rfl) (fun _ q => by cases q) (r_topNumber (by first | assumption | rfl) (by omega) (by omega)) ?_
    try refine R_top (y := nI _) (by assumption) ?_
    refine R_goto (pc' := 56) rfl rfl ?_
    refine R_istore_n (lv' := [(2, _), (1, _), (0, _)]) rfl rfl ?_
    refine R_iload_n rfl rfl ?_
    refine R_istore_n (lv' := [(3, _), (2, _), (1, _), (0, _)]) rfl rfl ?_
    exact r_adoptL hd hp hp1 hp0 ha hs hi1 N _ hc
  · refine CQ_of (md := md_X9_adopt) (d := d + 2) rfl (Nat.le_of_ble_eq_true rfl) ?_
    show WR (CalR (d + 2)) t_X9_adopt 9 (some .int) _ 0 [(0, .ref 0)] [] _
    refine R_aload_n rfl rfl ?_
    refine R_iconst (y := nI 1) rfl (by decide) ?_
    refine R_virt rfl rfl rfl rfl rfl rfl rfl (Nat.le_of_ble_eq_true rfl) (fun _ q => by cases q) (r_topKind (by first | assumption | rfl) (by omega) (by omega)) ?_
    try refine R_top (y := nI _) (by assumption) ?_
    refine R_iconst (y := nI 2) rfl (by decide) ?_
    refine R_icF rfl (by first | assumption | exact icF (by decide) | exact ic_F (by omega) (by omega) (by simp only [icN, not_true_eq_false, not_false_eq_true] <;> omega) | exact ic_F0 (by omega) (by simp only [icN, not_true_eq_false, not_false_eq_true] <;> omega)) ?_
    refine R_aload_n rfl rfl ?_
    refine R_iconst (y := nI 0) rfl (by decide) ?_
    refine R_virt rfl rfl rfl rfl rfl rfl rfl (Nat.le_of_ble_eq_true rfl) (fun _ q => by cases q) (r_topKind (by first | assumption | rfl) (by omega) (by omega)) ?_
    try refine R_top (y := nI _) (by assumption) ?_
    refine R_iconst (y := nI 2) rfl (by decide) ?_
    refine R_icF rfl (by first | assumption | exact icF (by decide) | exact ic_F (by omega) (by omega) (by simp only [icN, not_true_eq_false, not_false_eq_true] <;> omega) | exact ic_F0 (by omega) (by simp only [icN, not_true_eq_false, not_false_eq_true] <;> omega)) ?_
    refine R_aload_n rfl rfl ?_
    refine R_iconst (y := nI 0) rfl (by decide) ?_
    refine R_virt rfl rfl rfl rfl rfl rfl rfl (Nat.le_of_ble_eq_true rfl) (fun _ q => by cases q) (r_topKind (by first | assumption | rfl) (by omega) (by omega)) ?_
    try refine R_top (y := nI _) (by assumption) ?_
    refine R_ifT (pc' := 32) rfl rfl (by first | assumption | exact icT (by decide) | exact ic_T (by omega) (by omega) (by simp only [icN, not_true_eq_false, not_false_eq_true] <;> omega) | exact ic_T0 (by omega) (by simp only [icN, not_true_eq_false, not_false_eq_true] <;> omega)) ?_
    refine R_aload_n rfl rfl ?_
    refine R_iconst (y := nI 1) rfl (by decide) ?_
    refine R_virt rfl rfl rfl rfl rfl rfl rfl (Nat.le_of_ble_eq_true rfl) (fun _ q => by cases q) (r_topNumber (by first | assumption | rfl) (by omega) (by omega)) ?_
    try refine R_top (y := nI _) (by assumption) ?_
    refine R_istore_n (lv' := [(1, _), (0, _)]) rfl rfl ?_
    refine R_aload_n rfl rfl ?_
    refine R_iconst (y := nI 0) rfl (by decide) ?_
    refine R_virt rfl rfl rfl rfl rfl rfl rfl (Nat.le_of_ble_eq_true rfl) (fun _ q => by cases q) (r_topKind (by first | assumption | rfl) (by omega) (by omega)) ?_
    try refine R_top (y := nI _) (by assumption) ?_
    refine R_iconst (y := nI 2) rfl (by decide) ?_
    refine R_icT (pc' := 55) rfl rfl (by first | assumption | exact icT (by decide) | exact ic_T (by omega) (by omega) (by simp only [icN, not_true_eq_false, not_false_eq_true] <;> omega) | exact ic_T0 (by omega) (by simp only [icN, not_true_eq_false, not_false_eq_true] <;> omega)) ?_
    refine R_iconst (y := (-1)) rfl (by decide) ?_
    refine R_istore_n (lv' := [(2, _), (1, _), (0, _)]) rfl rfl ?_
    refine R_iload_n rfl rfl ?_
    refine R_istore_n (lv' := [(3, _), (2, _), (1, _), (0, _)]) rfl rfl ?_
    exact r_adoptL hd hp hp1 hp0 ha hs hi1 N _ hc
