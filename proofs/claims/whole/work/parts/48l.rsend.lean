/-! ===== the reference: send, fresh, copy, set ===== -/
def fky (M : Mem) (p k N : Nat) (x : Int32) (e : Nat) : Option (Nat × Nat) := fnd M x (N + 1) (chn M k (M 13 (p - 1 - e)))
theorem r_send2 {d : Nat} {M : Mem} {lv : Nat → Prop} {rk : Nat → Nat} {p k N b : Nat} {x : Int32} (hp : M 14 0 = nI p) (hp1 : p ≤ 1000) (hp0 : b < p) (hk4 : k < 4) (hk : M 12 (p - 1 - b) = nI k) (hd : dwn M lv rk) (hc : chn M k (M 13 (p - 1 - b)) = -1 ∨ ∃ i, lv i ∧ chn M k (M 13 (p - 1 - b)) = nI i ∧ rk i < N) (hq : fky M p k N x b = none) : CalR (d + 4) j_X9_send [.ref 0, .int x, .int (nI b)] M (some (.int (nI 2))) (up2 M 9 0 (nI 2)) := by
  have hF : CalR (d + 3) j_X9_find [.ref 0, .int (nI k), .int (M 13 (p - 1 - b)), .int x] M (some (.int (-1))) M := by
    have := r_find (d := d + 1) (x := x) hd hk4 hc
    unfold fky at hq
    rw [hq] at this
    exact this
  refine CalR_of (md := md_X9_send) (d := d + 3) rfl (Nat.le_of_ble_eq_true rfl) ?_
  show WR (CalR (d + 3)) t_X9_send 9 (some .int) _ 0 [(0, .ref 0), (1, .int x), (2, .int (nI b))] [] _
  refine R_aload_n rfl rfl ?_
  refine R_iload_n rfl rfl ?_
  refine R_virt rfl rfl rfl rfl rfl rfl rfl (Nat.le_of_ble_eq_true rfl) (fun _ q => by cases q) (r_topKind (by first | assumption | rfl) (by omega) (by omega)) ?_
  try refine R_top (y := nI _) (by assumption) ?_
  refine R_istore_n (lv' := [(3, _), (0, _), (1, _), (2, _)]) rfl rfl ?_
  refine R_aload_n rfl rfl ?_
  refine R_iload_n rfl rfl ?_
  refine R_virt rfl rfl rfl rfl rfl rfl rfl (Nat.le_of_ble_eq_true rfl) (fun _ q => by cases q) (r_topNumber (by first | assumption | rfl) (by omega) (by omega)) ?_
  try refine R_top (y := nI _) (by assumption) ?_
  refine R_istore (lv' := [(4, _), (3, _), (0, _), (1, _), (2, _)]) rfl rfl ?_
  refine R_aload_n rfl rfl ?_
  refine R_iload_n rfl rfl ?_
  refine R_iload rfl rfl ?_
  refine R_iload_n rfl rfl ?_
  refine R_virt rfl rfl rfl rfl rfl rfl rfl (Nat.le_of_ble_eq_true rfl) (fun _ q => by cases q) (hF) ?_
  try refine R_top (y := nI _) (by assumption) ?_
  refine R_istore (lv' := [(5, _), (4, _), (3, _), (0, _), (1, _), (2, _)]) rfl rfl ?_
  refine R_iload rfl rfl ?_
  refine R_ifF rfl (by first | assumption | exact icF (by decide) | exact ic_F (by omega) (by omega) (by simp only [icN, not_true_eq_false, not_false_eq_true] <;> omega) | exact ic_F0 (by omega) (by simp only [icN, not_true_eq_false, not_false_eq_true] <;> omega)) ?_
  refine R_aload_n rfl rfl ?_
  refine R_iconst (y := nI 2) rfl (by decide) ?_
  refine R_virt rfl rfl rfl rfl rfl rfl rfl (Nat.le_of_ble_eq_true rfl) (fun _ q => by cases q) (r_ends) ?_
  try refine R_top (y := nI _) (by assumption) ?_
  exact R_iret rfl rfl (by first | trivial | exact Or.inl rfl | exact Or.inr rfl | assumption) ⟨rfl, rfl⟩
section
variable {d : Nat} {M : Mem} {lv : Nat → Prop} {rk : Nat → Nat} {p k N b a s i n : Nat} {x : Int32} {q : Nat × Nat} {hit : Bool}
theorem r_sendF (hk4 : k < 4) (hd : dwn M lv rk) (hc : chn M k (M 13 (p - 1 - b)) = -1 ∨ ∃ i, lv i ∧ chn M k (M 13 (p - 1 - b)) = nI i ∧ rk i < N) (hq : fky M p k N x b = some q) : q.1 < 1500 ∧ q.2 < 40 ∧ CalR (d + 3) j_X9_find [.ref 0, .int (nI k), .int (M 13 (p - 1 - b)), .int x] M (some (.int (nI (40 * q.1 + q.2)))) M := by
  obtain ⟨-, q1, q2, -⟩ := fnd_lt hd (N + 1) _ q (by
    rcases hc with h | ⟨i, h1, h2, -⟩
    · exact Or.inl h
    · exact Or.inr ⟨i, h1, h2⟩) hq
  refine ⟨q1, q2, ?_⟩
  have := r_find (d := d + 1) (x := x) hd hk4 hc
  unfold fky at hq
  rw [hq] at this
  exact this
theorem r_send7 (hp : M 14 0 = nI p) (hp1 : p ≤ 1000) (hp0 : b < p) (hk4 : k < 4) (hk : M 12 (p - 1 - b) = nI k) (hd : dwn M lv rk) (hc : chn M k (M 13 (p - 1 - b)) = -1 ∨ ∃ i, lv i ∧ chn M k (M 13 (p - 1 - b)) = nI i ∧ rk i < N) (hq : fky M p k N x b = some q) (hm : ¬ M 35 (40 * q.1 + q.2) = nI 3) (hb0 : 0 < b) : CalR (d + 4) j_X9_send [.ref 0, .int x, .int (nI b)] M (some (.int (nI 7))) (up2 M 9 0 (nI 7)) := by
  obtain ⟨q1, q2, hF⟩ := r_sendF (d := d) hk4 hd hc hq
  refine CalR_of (md := md_X9_send) (d := d + 3) rfl (Nat.le_of_ble_eq_true rfl) ?_
  show WR (CalR (d + 3)) t_X9_send 9 (some .int) _ 0 [(0, .ref 0), (1, .int x), (2, .int (nI b))] [] _
  refine R_aload_n rfl rfl ?_
  refine R_iload_n rfl rfl ?_
  refine R_virt rfl rfl rfl rfl rfl rfl rfl (Nat.le_of_ble_eq_true rfl) (fun _ q => by cases q) (r_topKind (by first | assumption | rfl) (by omega) (by omega)) ?_
  try refine R_top (y := nI _) (by assumption) ?_
  refine R_istore_n (lv' := [(3, _), (0, _), (1, _), (2, _)]) rfl rfl ?_
  refine R_aload_n rfl rfl ?_
  refine R_iload_n rfl rfl ?_
  refine R_virt rfl rfl rfl rfl rfl rfl rfl (Nat.le_of_ble_eq_true rfl) (fun _ q => by cases q) (r_topNumber (by first | assumption | rfl) (by omega) (by omega)) ?_
  try refine R_top (y := nI _) (by assumption) ?_
  refine R_istore (lv' := [(4, _), (3, _), (0, _), (1, _), (2, _)]) rfl rfl ?_
  refine R_aload_n rfl rfl ?_
  refine R_iload_n rfl rfl ?_
  refine R_iload rfl rfl ?_
  refine R_iload_n rfl rfl ?_
  refine R_virt rfl rfl rfl rfl rfl rfl rfl (Nat.le_of_ble_eq_true rfl) (fun _ q => by cases q) (hF) ?_
  try refine R_top (y := nI _) (by assumption) ?_
  refine R_istore (lv' := [(5, _), (4, _), (3, _), (0, _), (1, _), (2, _)]) rfl rfl ?_
  refine R_iload rfl rfl ?_
  refine R_ifT (pc' := 34) rfl rfl (by first | assumption | exact icT (by decide) | exact ic_T (by omega) (by omega) (by simp only [icN, not_true_eq_false, not_false_eq_true] <;> omega) | exact ic_T0 (by omega) (by simp only [icN, not_true_eq_false, not_false_eq_true] <;> omega)) ?_
  refine R_aload_n rfl rfl ?_
  refine R_getA rfl rfl (Or.inl rfl) ?_
  refine R_iload rfl rfl ?_
  refine R_iald rfl rfl rfl (show _ < 60000 from by omega) ?_
  try refine R_top (y := nI _) (by assumption) ?_
  refine R_iconst (y := nI 3) rfl (by decide) ?_
  refine R_icF rfl (hm) ?_
  refine R_iload_n rfl rfl ?_
  refine R_ifF rfl (by first | assumption | exact icF (by decide) | exact ic_F (by omega) (by omega) (by simp only [icN, not_true_eq_false, not_false_eq_true] <;> omega) | exact ic_F0 (by omega) (by simp only [icN, not_true_eq_false, not_false_eq_true] <;> omega)) ?_
  refine R_aload_n rfl rfl ?_
  refine R_bipush (y := nI 7) rfl (by decide) ?_
  refine R_virt rfl rfl rfl rfl rfl rfl rfl (Nat.le_of_ble_eq_true rfl) (fun _ q => by cases q) (r_ends) ?_
  try refine R_top (y := nI _) (by assumption) ?_
  exact R_iret rfl rfl (by first | trivial | exact Or.inl rfl | exact Or.inr rfl | assumption) ⟨rfl, rfl⟩
theorem r_sendA (hp : M 14 0 = nI p) (hp1 : p ≤ 1000) (hp0 : 0 < p) (hk4 : k < 4) (hk : M 12 (p - 1 - 0) = nI k) (hd : dwn M lv rk) (hc : chn M k (M 13 (p - 1 - 0)) = -1 ∨ ∃ i, lv i ∧ chn M k (M 13 (p - 1 - 0)) = nI i ∧ rk i < N) (hq : fky M p k N x 0 = some q) (hm : ¬ M 35 (40 * q.1 + q.2) = nI 3) (ha : M 10 0 = nI a) (ha2 : a < 2000) (hs : M 11 0 = nI s) (hpr : M 25 k = -1 ∨ ∃ i, i < 1500 ∧ M 25 k = nI i) (hi : i < 1500) (hn : M 32 i = nI n) (hn4 : n ≤ 40) (hpi : M 31 i = -1 ∨ ∃ j, j < 1500 ∧ M 31 i = nI j) (hy : k = 2 → M 13 (p - 1 - 0) = nI i) (hab : abv M k (M 13 (p - 1 - 0)) = -1 ∨ ∃ i, lv i ∧ abv M k (M 13 (p - 1 - 0)) = nI i ∧ rk i < N) (hb : hit = true ↔ (rmb M a k i ∧ clm M (M 51 a) (N + 1) (abv M k (M 13 (p - 1 - 0))) = true)) : CalR (d + 4) j_X9_send [.ref 0, .int x, .int (nI 0)] M (some (.int 0)) (welM (pushM (lowM (metM M s n a k i hit) (p - 1)) (p - 1) (M 35 (40 * q.1 + q.2)) (M 36 (40 * q.1 + q.2))) (nI (a + 1)) s) := by
  obtain ⟨q1, q2, hF⟩ := r_sendF (d := d) hk4 hd hc hq
  have hM := r_meet (d := d) hd ha2 hk4 hpr hi hn hn4 hpi hy hs hab hb
  refine CalR_of (md := md_X9_send) (d := d + 3) rfl (Nat.le_of_ble_eq_true rfl) ?_
  show WR (CalR (d + 3)) t_X9_send 9 (some .int) _ 0 [(0, .ref 0), (1, .int x), (2, .int (nI 0))] [] _
  refine R_aload_n rfl rfl ?_
  refine R_iload_n rfl rfl ?_
  refine R_virt rfl rfl rfl rfl rfl rfl rfl (Nat.le_of_ble_eq_true rfl) (fun _ q => by cases q) (r_topKind (by first | assumption | rfl) (by omega) (by omega)) ?_
  try refine R_top (y := nI _) (by assumption) ?_
  refine R_istore_n (lv' := [(3, _), (0, _), (1, _), (2, _)]) rfl rfl ?_
  refine R_aload_n rfl rfl ?_
  refine R_iload_n rfl rfl ?_
  refine R_virt rfl rfl rfl rfl rfl rfl rfl (Nat.le_of_ble_eq_true rfl) (fun _ q => by cases q) (r_topNumber (by first | assumption | rfl) (by omega) (by omega)) ?_
  try refine R_top (y := nI _) (by assumption) ?_
  refine R_istore (lv' := [(4, _), (3, _), (0, _), (1, _), (2, _)]) rfl rfl ?_
  refine R_aload_n rfl rfl ?_
  refine R_iload_n rfl rfl ?_
  refine R_iload rfl rfl ?_
  refine R_iload_n rfl rfl ?_
  refine R_virt rfl rfl rfl rfl rfl rfl rfl (Nat.le_of_ble_eq_true rfl) (fun _ q => by cases q) (hF) ?_
  try refine R_top (y := nI _) (by assumption) ?_
  refine R_istore (lv' := [(5, _), (4, _), (3, _), (0, _), (1, _), (2, _)]) rfl rfl ?_
  refine R_iload rfl rfl ?_
  refine R_ifT (pc' := 34) rfl rfl (by first | assumption | exact icT (by decide) | exact ic_T (by omega) (by omega) (by simp only [icN, not_true_eq_false, not_false_eq_true] <;> omega) | exact ic_T0 (by omega) (by simp only [icN, not_true_eq_false, not_false_eq_true] <;> omega)) ?_
  refine R_aload_n rfl rfl ?_
  refine R_getA rfl rfl (Or.inl rfl) ?_
  refine R_iload rfl rfl ?_
  refine R_iald rfl rfl rfl (show _ < 60000 from by omega) ?_
  try refine R_top (y := nI _) (by assumption) ?_
  refine R_iconst (y := nI 3) rfl (by decide) ?_
  refine R_icF rfl (hm) ?_
  refine R_iload_n rfl rfl ?_
  refine R_ifT (pc' := 56) rfl rfl (by first | assumption | exact icT (by decide) | exact ic_T (by omega) (by omega) (by simp only [icN, not_true_eq_false, not_false_eq_true] <;> omega) | exact ic_T0 (by omega) (by simp only [icN, not_true_eq_false, not_false_eq_true] <;> omega)) ?_
  refine R_aload_n rfl rfl ?_
  refine R_aload_n rfl rfl ?_
  refine R_getI rfl rfl (Or.inl rfl) ?_
  try refine R_top (y := nI _) (by assumption) ?_
  refine R_iload_n rfl rfl ?_
  refine R_iload rfl rfl ?_
  refine R_virt rfl rfl rfl rfl rfl rfl rfl (Nat.le_of_ble_eq_true rfl) (fun _ q => by cases q) (hM) ?_
  have k14 : (metM M s n a k i hit) 14 0 = nI p := (metM_keep (by omega)).trans hp
  have k10 : (metM M s n a k i hit) 10 0 = nI a := (metM_keep (by omega)).trans ha
  have k11 : (metM M s n a k i hit) 11 0 = nI s := (metM_keep (by omega)).trans hs
  rw [show M 35 (40 * q.1 + q.2) = (metM M s n a k i hit) 35 (40 * q.1 + q.2) from (metM_keep (by omega)).symm, show M 36 (40 * q.1 + q.2) = (metM M s n a k i hit) 36 (40 * q.1 + q.2) from (metM_keep (by omega)).symm]
  generalize metM M s n a k i hit = M1 at k14 k10 k11 ⊢
  refine R_aload_n rfl rfl ?_
  refine R_dup rfl ?_
  refine R_getI rfl rfl (Or.inl rfl) ?_
  try refine R_top (y := nI _) (by assumption) ?_
  refine R_iconst (y := nI 1) rfl (by decide) ?_
  first | refine R_isubN rfl (by omega) ?_ | refine R_isub rfl ?_
  refine R_put rfl rfl rfl ?_
  refine R_aload_n rfl rfl ?_
  refine R_aload_n rfl rfl ?_
  refine R_getA rfl rfl (Or.inl rfl) ?_
  refine R_iload rfl rfl ?_
  refine R_iald rfl rfl rfl (show _ < 60000 from by omega) ?_
  try refine R_top (y := nI _) (by assumption) ?_
  refine R_aload_n rfl rfl ?_
  refine R_getA rfl rfl (Or.inl rfl) ?_
  refine R_iload rfl rfl ?_
  refine R_iald rfl rfl rfl (show _ < 60000 from by omega) ?_
  try refine R_top (y := nI _) (by assumption) ?_
  refine R_virt rfl rfl rfl rfl rfl rfl rfl (Nat.le_of_ble_eq_true rfl) (fun _ q => by cases q) (r_push (by first | assumption | rfl) (by omega)) ?_
  refine R_aload_n rfl rfl ?_
  refine R_aload_n rfl rfl ?_
  refine R_getI rfl rfl (Or.inl rfl) ?_
  try refine R_top (y := nI _) (by assumption) ?_
  refine R_iconst (y := nI 1) rfl (by decide) ?_
  first | refine R_iaddN rfl ?_ | refine R_iadd rfl ?_
  refine R_virt rfl rfl rfl rfl rfl rfl rfl (Nat.le_of_ble_eq_true rfl) (fun _ q => by cases q) (r_well (by assumption)) ?_
  try refine R_top (y := nI _) (by assumption) ?_
  exact R_iret rfl rfl (by first | trivial | exact Or.inl rfl | exact Or.inr rfl | assumption) ⟨rfl, rfl⟩
theorem r_sendN {w pl : Nat} (hp : M 14 0 = nI p) (hp1 : p ≤ 1000) (hp0 : b < p) (hk4 : k < 4) (hk : M 12 (p - 1 - b) = nI k) (hd : dwn M lv rk) (hc : chn M k (M 13 (p - 1 - b)) = -1 ∨ ∃ i, lv i ∧ chn M k (M 13 (p - 1 - b)) = nI i ∧ rk i < N) (hq : fky M p k N x b = some q) (hm : M 35 (40 * q.1 + q.2) = nI 3) (hpl : M 36 (40 * q.1 + q.2) = nI pl) (hpl2 : pl ≤ 2000) (hw : M 5 0 = nI w) (hw2 : w ≤ 2000) (hno : ¬ (pl < w ∧ M 2 pl = nI 34 ∧ M 3 pl = nI b)) : CalR (d + 4) j_X9_send [.ref 0, .int x, .int (nI b)] M (some (.int (nI 7))) (up2 M 9 0 (nI 7)) := by
  obtain ⟨q1, q2, hF⟩ := r_sendF (d := d) hk4 hd hc hq
  by_cases h1 : pl < w
  · by_cases h2 : M 2 pl = nI 34
    · have h3 : ¬ M 3 pl = nI b := fun r => hno ⟨h1, h2, r⟩
      refine CalR_of (md := md_X9_send) (d := d + 3) rfl (Nat.le_of_ble_eq_true rfl) ?_
      show WR (CalR (d + 3)) t_X9_send 9 (some .int) _ 0 [(0, .ref 0), (1, .int x), (2, .int (nI b))] [] _
      refine R_aload_n rfl rfl ?_
      refine R_iload_n rfl rfl ?_
      refine R_virt rfl rfl rfl rfl rfl rfl rfl (Nat.le_of_ble_eq_true rfl) (fun _ q => by cases q) (r_topKind (by first | assumption | rfl) (by omega) (by omega)) ?_
      try refine R_top (y := nI _) (by assumption) ?_
      refine R_istore_n (lv' := [(3, _), (0, _), (1, _), (2, _)]) rfl rfl ?_
      refine R_aload_n rfl rfl ?_
      refine R_iload_n rfl rfl ?_
      refine R_virt rfl rfl rfl rfl rfl rfl rfl (Nat.le_of_ble_eq_true rfl) (fun _ q => by cases q) (r_topNumber (by first | assumption | rfl) (by omega) (by omega)) ?_
      try refine R_top (y := nI _) (by assumption) ?_
      refine R_istore (lv' := [(4, _), (3, _), (0, _), (1, _), (2, _)]) rfl rfl ?_
      refine R_aload_n rfl rfl ?_
      refine R_iload_n rfl rfl ?_
      refine R_iload rfl rfl ?_
      refine R_iload_n rfl rfl ?_
      refine R_virt rfl rfl rfl rfl rfl rfl rfl (Nat.le_of_ble_eq_true rfl) (fun _ q => by cases q) (hF) ?_
      try refine R_top (y := nI _) (by assumption) ?_
      refine R_istore (lv' := [(5, _), (4, _), (3, _), (0, _), (1, _), (2, _)]) rfl rfl ?_
      refine R_iload rfl rfl ?_
      refine R_ifT (pc' := 34) rfl rfl (by first | assumption | exact icT (by decide) | exact ic_T (by omega) (by omega) (by simp only [icN, not_true_eq_false, not_false_eq_true] <;> omega) | exact ic_T0 (by omega) (by simp only [icN, not_true_eq_false, not_false_eq_true] <;> omega)) ?_
      refine R_aload_n rfl rfl ?_
      refine R_getA rfl rfl (Or.inl rfl) ?_
      refine R_iload rfl rfl ?_
      refine R_iald rfl rfl rfl (show _ < 60000 from by omega) ?_
      try refine R_top (y := nI _) (by assumption) ?_
      refine R_iconst (y := nI 3) rfl (by decide) ?_
      refine R_icT (pc' := 106) rfl rfl (by first | assumption | exact icT (by decide) | exact ic_T (by omega) (by omega) (by simp only [icN, not_true_eq_false, not_false_eq_true] <;> omega) | exact ic_T0 (by omega) (by simp only [icN, not_true_eq_false, not_false_eq_true] <;> omega)) ?_
      refine R_aload_n rfl rfl ?_
      refine R_getA rfl rfl (Or.inl rfl) ?_
      refine R_iload rfl rfl ?_
      refine R_iald rfl rfl rfl (show _ < 60000 from by omega) ?_
      try refine R_top (y := nI _) (by assumption) ?_
      refine R_istore (lv' := [(6, _), (5, _), (4, _), (3, _), (0, _), (1, _), (2, _)]) rfl rfl ?_
      refine R_iload rfl rfl ?_
      refine R_aload_n rfl rfl ?_
      refine R_getI rfl rfl (Or.inl rfl) ?_
      try refine R_top (y := nI _) (by assumption) ?_
      refine R_icF rfl (by first | assumption | exact icF (by decide) | exact ic_F (by omega) (by omega) (by simp only [icN, not_true_eq_false, not_false_eq_true] <;> omega) | exact ic_F0 (by omega) (by simp only [icN, not_true_eq_false, not_false_eq_true] <;> omega)) ?_
      refine R_aload_n rfl rfl ?_
      refine R_getA rfl rfl (Or.inl rfl) ?_
      refine R_iload rfl rfl ?_
      refine R_iald rfl rfl rfl (show _ < 2000 from by omega) ?_
      try refine R_top (y := nI _) (by assumption) ?_
      refine R_bipush (y := nI 34) rfl (by decide) ?_
      refine R_icF rfl (by first | assumption | exact icF (by decide) | exact ic_F (by omega) (by omega) (by simp only [icN, not_true_eq_false, not_false_eq_true] <;> omega) | exact ic_F0 (by omega) (by simp only [icN, not_true_eq_false, not_false_eq_true] <;> omega)) ?_
      refine R_aload_n rfl rfl ?_
      refine R_getA rfl rfl (Or.inl rfl) ?_
      refine R_iload rfl rfl ?_
      refine R_iald rfl rfl rfl (show _ < 2000 from by omega) ?_
      try refine R_top (y := nI _) (by assumption) ?_
      refine R_iload_n rfl rfl ?_
      refine R_icF rfl (h3) ?_
      refine R_aload_n rfl rfl ?_
      refine R_bipush (y := nI 7) rfl (by decide) ?_
      refine R_virt rfl rfl rfl rfl rfl rfl rfl (Nat.le_of_ble_eq_true rfl) (fun _ q => by cases q) (r_ends) ?_
      try refine R_top (y := nI _) (by assumption) ?_
      exact R_iret rfl rfl (by first | trivial | exact Or.inl rfl | exact Or.inr rfl | assumption) ⟨rfl, rfl⟩
    · refine CalR_of (md := md_X9_send) (d := d + 3) rfl (Nat.le_of_ble_eq_true rfl) ?_
      show WR (CalR (d + 3)) t_X9_send 9 (some .int) _ 0 [(0, .ref 0), (1, .int x), (2, .int (nI b))] [] _
      refine R_aload_n rfl rfl ?_
      refine R_iload_n rfl rfl ?_
      refine R_virt rfl rfl rfl rfl rfl rfl rfl (Nat.le_of_ble_eq_true rfl) (fun _ q => by cases q) (r_topKind (by first | assumption | rfl) (by omega) (by omega)) ?_
      try refine R_top (y := nI _) (by assumption) ?_
      refine R_istore_n (lv' := [(3, _), (0, _), (1, _), (2, _)]) rfl rfl ?_
      refine R_aload_n rfl rfl ?_
      refine R_iload_n rfl rfl ?_
      refine R_virt rfl rfl rfl rfl rfl rfl rfl (Nat.le_of_ble_eq_true rfl) (fun _ q => by cases q) (r_topNumber (by first | assumption | rfl) (by omega) (by omega)) ?_
      try refine R_top (y := nI _) (by assumption) ?_
      refine R_istore (lv' := [(4, _), (3, _), (0, _), (1, _), (2, _)]) rfl rfl ?_
      refine R_aload_n rfl rfl ?_
      refine R_iload_n rfl rfl ?_
      refine R_iload rfl rfl ?_
      refine R_iload_n rfl rfl ?_
      refine R_virt rfl rfl rfl rfl rfl rfl rfl (Nat.le_of_ble_eq_true rfl) (fun _ q => by cases q) (hF) ?_
      try refine R_top (y := nI _) (by assumption) ?_
      refine R_istore (lv' := [(5, _), (4, _), (3, _), (0, _), (1, _), (2, _)]) rfl rfl ?_
      refine R_iload rfl rfl ?_
      refine R_ifT (pc' := 34) rfl rfl (by first | assumption | exact icT (by decide) | exact ic_T (by omega) (by omega) (by simp only [icN, not_true_eq_false, not_false_eq_true] <;> omega) | exact ic_T0 (by omega) (by simp only [icN, not_true_eq_false, not_false_eq_true] <;> omega)) ?_
      refine R_aload_n rfl rfl ?_
      refine R_getA rfl rfl (Or.inl rfl) ?_
      refine R_iload rfl rfl ?_
      refine R_iald rfl rfl rfl (show _ < 60000 from by omega) ?_
      try refine R_top (y := nI _) (by assumption) ?_
      refine R_iconst (y := nI 3) rfl (by decide) ?_
      refine R_icT (pc' := 106) rfl rfl (by first | assumption | exact icT (by decide) | exact ic_T (by omega) (by omega) (by simp only [icN, not_true_eq_false, not_false_eq_true] <;> omega) | exact ic_T0 (by omega) (by simp only [icN, not_true_eq_false, not_false_eq_true] <;> omega)) ?_
      refine R_aload_n rfl rfl ?_
      refine R_getA rfl rfl (Or.inl rfl) ?_
      refine R_iload rfl rfl ?_
      refine R_iald rfl rfl rfl (show _ < 60000 from by omega) ?_
      try refine R_top (y := nI _) (by assumption) ?_
      refine R_istore (lv' := [(6, _), (5, _), (4, _), (3, _), (0, _), (1, _), (2, _)]) rfl rfl ?_
      refine R_iload rfl rfl ?_
      refine R_aload_n rfl rfl ?_
      refine R_getI rfl rfl (Or.inl rfl) ?_
      try refine R_top (y := nI _) (by assumption) ?_
      refine R_icF rfl (by first | assumption | exact icF (by decide) | exact ic_F (by omega) (by omega) (by simp only [icN, not_true_eq_false, not_false_eq_true] <;> omega) | exact ic_F0 (by omega) (by simp only [icN, not_true_eq_false, not_false_eq_true] <;> omega)) ?_
      refine R_aload_n rfl rfl ?_
      refine R_getA rfl rfl (Or.inl rfl) ?_
      refine R_iload rfl rfl ?_
      refine R_iald rfl rfl rfl (show _ < 2000 from by omega) ?_
      try refine R_top (y := nI _) (by assumption) ?_
      refine R_bipush (y := nI 34) rfl (by decide) ?_
      refine R_icT (pc' := 147) rfl rfl (h2) ?_
      refine R_aload_n rfl rfl ?_
      refine R_bipush (y := nI 7) rfl (by decide) ?_
      refine R_virt rfl rfl rfl rfl rfl rfl rfl (Nat.le_of_ble_eq_true rfl) (fun _ q => by cases q) (r_ends) ?_
      try refine R_top (y := nI _) (by assumption) ?_
      exact R_iret rfl rfl (by first | trivial | exact Or.inl rfl | exact Or.inr rfl | assumption) ⟨rfl, rfl⟩
  · refine CalR_of (md := md_X9_send) (d := d + 3) rfl (Nat.le_of_ble_eq_true rfl) ?_
    show WR (CalR (d + 3)) t_X9_send 9 (some .int) _ 0 [(0, .ref 0), (1, .int x), (2, .int (nI b))] [] _
    refine R_aload_n rfl rfl ?_
    refine R_iload_n rfl rfl ?_
    refine R_virt rfl rfl rfl rfl rfl rfl rfl (Nat.le_of_ble_eq_true rfl) (fun _ q => by cases q) (r_topKind (by first | assumption | rfl) (by omega) (by omega)) ?_
    try refine R_top (y := nI _) (by assumption) ?_
    refine R_istore_n (lv' := [(3, _), (0, _), (1, _), (2, _)]) rfl rfl ?_
    refine R_aload_n rfl rfl ?_
    refine R_iload_n rfl rfl ?_
    refine R_virt rfl rfl rfl rfl rfl rfl rfl (Nat.le_of_ble_eq_true rfl) (fun _ q => by cases q) (r_topNumber (by first | assumption | rfl) (by omega) (by omega)) ?_
    try refine R_top (y := nI _) (by assumption) ?_
    refine R_istore (lv' := [(4, _), (3, _), (0, _), (1, _), (2, _)]) rfl rfl ?_
    refine R_aload_n rfl rfl ?_
    refine R_iload_n rfl rfl ?_
    refine R_iload rfl rfl ?_
    refine R_iload_n rfl rfl ?_
    refine R_virt rfl rfl rfl rfl rfl rfl rfl (Nat.le_of_ble_eq_true rfl) (fun _ q => by cases q) (hF) ?_
    try refine R_top (y := nI _) (by assumption) ?_
    refine R_istore (lv' := [(5, _), (4, _), (3, _), (0, _), (1, _), (2, _)]) rfl rfl ?_
    refine R_iload rfl rfl ?_
    refine R_ifT (pc' := 34) rfl rfl (by first | assumption | exact icT (by decide) | exact ic_T (by omega) (by omega) (by simp only [icN, not_true_eq_false, not_false_eq_true] <;> omega) | exact ic_T0 (by omega) (by simp only [icN, not_true_eq_false, not_false_eq_true] <;> omega)) ?_
    refine R_aload_n rfl rfl ?_
    refine R_getA rfl rfl (Or.inl rfl) ?_
    refine R_iload rfl rfl ?_
    refine R_iald rfl rfl rfl (show _ < 60000 from by omega) ?_
    try refine R_top (y := nI _) (by assumption) ?_
    refine R_iconst (y := nI 3) rfl (by decide) ?_
    refine R_icT (pc' := 106) rfl rfl (by first | assumption | exact icT (by decide) | exact ic_T (by omega) (by omega) (by simp only [icN, not_true_eq_false, not_false_eq_true] <;> omega) | exact ic_T0 (by omega) (by simp only [icN, not_true_eq_false, not_false_eq_true] <;> omega)) ?_
    refine R_aload_n rfl rfl ?_
    refine R_getA rfl rfl (Or.inl rfl) ?_
    refine R_iload rfl rfl ?_
    refine R_iald rfl rfl rfl (show _ < 60000 from by omega) ?_
    try refine R_top (y := nI _) (by assumption) ?_
    refine R_istore (lv' := [(6, _), (5, _), (4, _), (3, _), (0, _), (1, _), (2, _)]) rfl rfl ?_
    refine R_iload rfl rfl ?_
    refine R_aload_n rfl rfl ?_
    refine R_getI rfl rfl (Or.inl rfl) ?_
    try refine R_top (y := nI _) (by assumption) ?_
    refine R_icT (pc' := 147) rfl rfl (by first | assumption | exact icT (by decide) | exact ic_T (by omega) (by omega) (by simp only [icN, not_true_eq_false, not_false_eq_true] <;> omega) | exact ic_T0 (by omega) (by simp only [icN, not_true_eq_false, not_false_eq_true] <;> omega)) ?_
    refine R_aload_n rfl rfl ?_
    refine R_bipush (y := nI 7) rfl (by decide) ?_
    refine R_virt rfl rfl rfl rfl rfl rfl rfl (Nat.le_of_ble_eq_true rfl) (fun _ q => by cases q) (r_ends) ?_
    try refine R_top (y := nI _) (by assumption) ?_
    exact R_iret rfl rfl (by first | trivial | exact Or.inl rfl | exact Or.inr rfl | assumption) ⟨rfl, rfl⟩
theorem r_send5 {w pl : Nat} (hp : M 14 0 = nI p) (hp1 : p ≤ 1000) (hp0 : b < p) (hk4 : k < 4) (hk : M 12 (p - 1 - b) = nI k) (hd : dwn M lv rk) (hc : chn M k (M 13 (p - 1 - b)) = -1 ∨ ∃ i, lv i ∧ chn M k (M 13 (p - 1 - b)) = nI i ∧ rk i < N) (hq : fky M p k N x b = some q) (hm : M 35 (40 * q.1 + q.2) = nI 3) (hpl : M 36 (40 * q.1 + q.2) = nI pl) (hw : M 5 0 = nI w) (hw2 : w ≤ 2000) (h1 : pl < w) (h2 : M 2 pl = nI 34) (h3 : M 3 pl = nI b) (hf : M 22 0 = nI 200) : CalR (d + 4) j_X9_send [.ref 0, .int x, .int (nI b)] M (some (.int (nI 5))) (up2 M 9 0 (nI 5)) := by
  obtain ⟨q1, q2, hF⟩ := r_sendF (d := d) hk4 hd hc hq
  refine CalR_of (md := md_X9_send) (d := d + 3) rfl (Nat.le_of_ble_eq_true rfl) ?_
  show WR (CalR (d + 3)) t_X9_send 9 (some .int) _ 0 [(0, .ref 0), (1, .int x), (2, .int (nI b))] [] _
  refine R_aload_n rfl rfl ?_
  refine R_iload_n rfl rfl ?_
  refine R_virt rfl rfl rfl rfl rfl rfl rfl (Nat.le_of_ble_eq_true rfl) (fun _ q => by cases q) (r_topKind (by first | assumption | rfl) (by omega) (by omega)) ?_
  try refine R_top (y := nI _) (by assumption) ?_
  refine R_istore_n (lv' := [(3, _), (0, _), (1, _), (2, _)]) rfl rfl ?_
  refine R_aload_n rfl rfl ?_
  refine R_iload_n rfl rfl ?_
  refine R_virt rfl rfl rfl rfl rfl rfl rfl (Nat.le_of_ble_eq_true rfl) (fun _ q => by cases q) (r_topNumber (by first | assumption | rfl) (by omega) (by omega)) ?_
  try refine R_top (y := nI _) (by assumption) ?_
  refine R_istore (lv' := [(4, _), (3, _), (0, _), (1, _), (2, _)]) rfl rfl ?_
  refine R_aload_n rfl rfl ?_
  refine R_iload_n rfl rfl ?_
  refine R_iload rfl rfl ?_
  refine R_iload_n rfl rfl ?_
  refine R_virt rfl rfl rfl rfl rfl rfl rfl (Nat.le_of_ble_eq_true rfl) (fun _ q => by cases q) (hF) ?_
  try refine R_top (y := nI _) (by assumption) ?_
  refine R_istore (lv' := [(5, _), (4, _), (3, _), (0, _), (1, _), (2, _)]) rfl rfl ?_
  refine R_iload rfl rfl ?_
  refine R_ifT (pc' := 34) rfl rfl (by first | assumption | exact icT (by decide) | exact ic_T (by omega) (by omega) (by simp only [icN, not_true_eq_false, not_false_eq_true] <;> omega) | exact ic_T0 (by omega) (by simp only [icN, not_true_eq_false, not_false_eq_true] <;> omega)) ?_
  refine R_aload_n rfl rfl ?_
  refine R_getA rfl rfl (Or.inl rfl) ?_
  refine R_iload rfl rfl ?_
  refine R_iald rfl rfl rfl (show _ < 60000 from by omega) ?_
  try refine R_top (y := nI _) (by assumption) ?_
  refine R_iconst (y := nI 3) rfl (by decide) ?_
  refine R_icT (pc' := 106) rfl rfl (by first | assumption | exact icT (by decide) | exact ic_T (by omega) (by omega) (by simp only [icN, not_true_eq_false, not_false_eq_true] <;> omega) | exact ic_T0 (by omega) (by simp only [icN, not_true_eq_false, not_false_eq_true] <;> omega)) ?_
  refine R_aload_n rfl rfl ?_
  refine R_getA rfl rfl (Or.inl rfl) ?_
  refine R_iload rfl rfl ?_
  refine R_iald rfl rfl rfl (show _ < 60000 from by omega) ?_
  try refine R_top (y := nI _) (by assumption) ?_
  refine R_istore (lv' := [(6, _), (5, _), (4, _), (3, _), (0, _), (1, _), (2, _)]) rfl rfl ?_
  refine R_iload rfl rfl ?_
  refine R_aload_n rfl rfl ?_
  refine R_getI rfl rfl (Or.inl rfl) ?_
  try refine R_top (y := nI _) (by assumption) ?_
  refine R_icF rfl (by first | assumption | exact icF (by decide) | exact ic_F (by omega) (by omega) (by simp only [icN, not_true_eq_false, not_false_eq_true] <;> omega) | exact ic_F0 (by omega) (by simp only [icN, not_true_eq_false, not_false_eq_true] <;> omega)) ?_
  refine R_aload_n rfl rfl ?_
  refine R_getA rfl rfl (Or.inl rfl) ?_
  refine R_iload rfl rfl ?_
  refine R_iald rfl rfl rfl (show _ < 2000 from by omega) ?_
  try refine R_top (y := nI _) (by assumption) ?_
  refine R_bipush (y := nI 34) rfl (by decide) ?_
  refine R_icF rfl (by first | assumption | exact icF (by decide) | exact ic_F (by omega) (by omega) (by simp only [icN, not_true_eq_false, not_false_eq_true] <;> omega) | exact ic_F0 (by omega) (by simp only [icN, not_true_eq_false, not_false_eq_true] <;> omega)) ?_
  refine R_aload_n rfl rfl ?_
  refine R_getA rfl rfl (Or.inl rfl) ?_
  refine R_iload rfl rfl ?_
  refine R_iald rfl rfl rfl (show _ < 2000 from by omega) ?_
  try refine R_top (y := nI _) (by assumption) ?_
  refine R_iload_n rfl rfl ?_
  refine R_icT (pc' := 154) rfl rfl (by first | assumption | exact icT (by decide) | exact ic_T (by omega) (by omega) (by simp only [icN, not_true_eq_false, not_false_eq_true] <;> omega) | exact ic_T0 (by omega) (by simp only [icN, not_true_eq_false, not_false_eq_true] <;> omega)) ?_
  refine R_aload_n rfl rfl ?_
  refine R_getI rfl rfl (Or.inl rfl) ?_
  try refine R_top (y := nI _) (by assumption) ?_
  refine R_sipush (y := nI 200) rfl (by decide) ?_
  refine R_icF rfl (by first | assumption | exact icF (by decide) | exact ic_F (by omega) (by omega) (by simp only [icN, not_true_eq_false, not_false_eq_true] <;> omega) | exact ic_F0 (by omega) (by simp only [icN, not_true_eq_false, not_false_eq_true] <;> omega)) ?_
  refine R_aload_n rfl rfl ?_
  refine R_iconst (y := nI 5) rfl (by decide) ?_
  refine R_virt rfl rfl rfl rfl rfl rfl rfl (Nat.le_of_ble_eq_true rfl) (fun _ q => by cases q) (r_ends) ?_
  try refine R_top (y := nI _) (by assumption) ?_
  exact R_iret rfl rfl (by first | trivial | exact Or.inl rfl | exact Or.inr rfl | assumption) ⟨rfl, rfl⟩
end
/-- the locals of a new frame f: m of them, the first b from the pile -/
def lcl (M : Mem) (f p b m : Nat) : Mem := fun k => if k = 20 then (fun j => if 16 * f ≤ j ∧ j < 16 * f + m then (if j - 16 * f < b then M 12 (p - 1 - (b - 1 - (j - 16 * f))) else nI 0) else M 20 j) else if k = 21 then (fun j => if 16 * f ≤ j ∧ j < 16 * f + m then (if j - 16 * f < b then M 13 (p - 1 - (b - 1 - (j - 16 * f))) else nI 0) else M 21 j) else M k
theorem lcl_0 (M : Mem) (f p b : Nat) : lcl M f p b 0 = M := by
  funext k j
  unfold lcl
  by_cases h : k = 20
  · subst h
    rw [if_pos rfl]
    exact if_neg (by omega)
  · rw [if_neg h]
    by_cases h : k = 21
    · subst h
      rw [if_pos rfl]
      exact if_neg (by omega)
    · rw [if_neg h]
theorem lcl_s (M : Mem) (f p b m : Nat) : up2 (up2 (lcl M f p b m) 20 (16 * f + m) (if m < b then M 12 (p - 1 - (b - 1 - m)) else nI 0)) 21 (16 * f + m) (if m < b then M 13 (p - 1 - (b - 1 - m)) else nI 0) = lcl M f p b (m + 1) := by
  funext k j
  unfold up2 upd
  by_cases h1 : k = 21
  · subst h1
    rw [if_pos rfl]
    show (if j = 16 * f + m then _ else if 16 * f ≤ j ∧ j < 16 * f + m then _ else M 21 j) = (if 16 * f ≤ j ∧ j < 16 * f + (m + 1) then _ else M 21 j)
    by_cases hj : j = 16 * f + m
    · subst hj
      rw [if_pos rfl, if_pos (show 16 * f ≤ 16 * f + m ∧ 16 * f + m < 16 * f + (m + 1) by omega), show 16 * f + m - 16 * f = m by omega]
    · rw [if_neg hj]
      by_cases h2 : 16 * f ≤ j ∧ j < 16 * f + m
      · rw [if_pos h2, if_pos (show 16 * f ≤ j ∧ j < 16 * f + (m + 1) by omega)]
      · rw [if_neg h2, if_neg (show ¬ (16 * f ≤ j ∧ j < 16 * f + (m + 1)) by omega)]
  · rw [if_neg h1]
    by_cases h0 : k = 20
    · subst h0
      rw [if_pos rfl]
      show (if j = 16 * f + m then _ else if 16 * f ≤ j ∧ j < 16 * f + m then _ else M 20 j) = (if 16 * f ≤ j ∧ j < 16 * f + (m + 1) then _ else M 20 j)
      by_cases hj : j = 16 * f + m
      · subst hj
        rw [if_pos rfl, if_pos (show 16 * f ≤ 16 * f + m ∧ 16 * f + m < 16 * f + (m + 1) by omega), show 16 * f + m - 16 * f = m by omega]
      · rw [if_neg hj]
        by_cases h2 : 16 * f ≤ j ∧ j < 16 * f + m
        · rw [if_pos h2, if_pos (show 16 * f ≤ j ∧ j < 16 * f + (m + 1) by omega)]
        · rw [if_neg h2, if_neg (show ¬ (16 * f ≤ j ∧ j < 16 * f + (m + 1)) by omega)]
    · rw [if_neg h0]
      unfold lcl
      rw [if_neg h0, if_neg h1, if_neg h0, if_neg h1]
/-- behind a SEND that enters a method -/
def entM (M : Mem) (p f b m s a pl : Nat) (k y : Int32) : Mem := welM (up2 (up2 (lowM (up2 (up2 (up2 (lcl (up2 M 19 f (nI m)) f p b m) 17 f k) 18 f y) 16 f (nI (a + 1))) (p - b - 1)) 15 f (nI (p - b - 1))) 22 0 (nI (f + 1))) (nI (pl + 1)) s
theorem r_sendE {d : Nat} {M : Mem} {p f b b2 m s a pl : Nat} {x6 : Int32} {x k y : Int32} {e : Value} (hp : M 14 0 = nI p) (hp1 : p ≤ 1000) (hp0 : b < p) (ha : M 10 0 = nI a) (hs : M 11 0 = nI s) (hf : M 22 0 = nI f) (hf2 : f < 200) (hpl : pl < 2000) (hB : M 4 pl = nI b2) (hm : b + b2 = m) (hm16 : m ≤ 16) : WR (CalR (d + 1)) t_X9_send 9 (some .int) (fun v' M' => v' = some (.int 0) ∧ M' = entM M p f b m s a pl k y) 181 [(6, .int (nI pl)), (5, .int x6), (4, .int y), (3, .int k), (0, .ref 0), (1, .int x), (2, .int (nI b))] [] M := by
  subst hm
  unfold entM
  refine R_aload_n rfl rfl ?_
  refine R_getI rfl rfl (Or.inl rfl) ?_
  try refine R_top (y := nI _) (by assumption) ?_
  refine R_istore (lv' := [(7, _), (6, _), (5, _), (4, _), (3, _), (0, _), (1, _), (2, _)]) rfl rfl ?_
  refine R_aload_n rfl rfl ?_
  refine R_getA rfl rfl (Or.inl rfl) ?_
  refine R_iload rfl rfl ?_
  refine R_iload_n rfl rfl ?_
  refine R_aload_n rfl rfl ?_
  refine R_getA rfl rfl (Or.inl rfl) ?_
  refine R_iload rfl rfl ?_
  refine R_iald rfl rfl rfl (show _ < 2000 from by omega) ?_
  try refine R_top (y := nI _) (by assumption) ?_
  first | refine R_iaddN rfl ?_ | refine R_iadd rfl ?_
  refine R_iast rfl rfl rfl (show _ < 200 from by omega) ?_
  refine R_iconst (y := nI 0) rfl (by decide) ?_
  refine R_istore (lv' := [(8, _), (7, _), (6, _), (5, _), (4, _), (3, _), (0, _), (1, _), (2, _)]) rfl rfl ?_
  have k14 : (up2 M 19 f (nI (b + b2))) 14 0 = nI p := hp
  have k10 : (up2 M 19 f (nI (b + b2))) 10 0 = nI a := ha
  have k11 : (up2 M 19 f (nI (b + b2))) 11 0 = nI s := hs
  have k22 : (up2 M 19 f (nI (b + b2))) 22 0 = nI f := hf
  have k19 : (up2 M 19 f (nI (b + b2))) 19 f = nI (b + b2) := if_pos rfl
  generalize up2 M 19 f (nI (b + b2)) = M1 at k14 k10 k11 k22 k19 ⊢
  refine WR_eq (lcl_0 M1 f p b).symm ?_
  refine dn_up (P := fun q => WR (CalR (d + 1)) t_X9_send 9 (some .int) (fun v' M' => v' = some (.int 0) ∧ M' = welM (up2 (up2 (lowM (up2 (up2 (up2 (lcl M1 f p b (b + b2)) 17 f k) 18 f y) 16 f (nI (a + 1))) (p - b - 1)) 15 f (nI (p - b - 1))) 22 0 (nI (f + 1))) (nI (pl + 1)) s) 206 [(8, .int (nI q)), (7, .int (nI f)), (6, .int (nI pl)), (5, .int x6), (4, .int y), (3, .int k), (0, .ref 0), (1, .int x), (2, .int (nI b))] [] (lcl M1 f p b q)) (N := b + b2) ?_ ?_ 0 (Nat.zero_le _)
  · have k14' : (lcl M1 f p b (b + b2)) 14 0 = nI p := k14
    have k10' : (lcl M1 f p b (b + b2)) 10 0 = nI a := k10
    have k11' : (lcl M1 f p b (b + b2)) 11 0 = nI s := k11
    have k22' : (lcl M1 f p b (b + b2)) 22 0 = nI f := k22
    have k19' : (lcl M1 f p b (b + b2)) 19 f = nI (b + b2) := k19
    generalize lcl M1 f p b (b + b2) = M2 at k14' k10' k11' k22' k19' ⊢
    refine R_iload rfl rfl ?_
    refine R_aload_n rfl rfl ?_
    refine R_getA rfl rfl (Or.inl rfl) ?_
    refine R_iload rfl rfl ?_
    refine R_iald rfl rfl rfl (show _ < 200 from by omega) ?_
    try refine R_top (y := nI _) (by assumption) ?_
    refine R_icT (pc' := 290) rfl rfl (by first | assumption | exact icT (by decide) | exact ic_T (by omega) (by omega) (by simp only [icN, not_true_eq_false, not_false_eq_true] <;> omega) | exact ic_T0 (by omega) (by simp only [icN, not_true_eq_false, not_false_eq_true] <;> omega)) ?_
    refine R_aload_n rfl rfl ?_
    refine R_getA rfl rfl (Or.inl rfl) ?_
    refine R_iload rfl rfl ?_
    refine R_iload_n rfl rfl ?_
    refine R_iast rfl rfl rfl (show _ < 200 from by omega) ?_
    refine R_aload_n rfl rfl ?_
    refine R_getA rfl rfl (Or.inl rfl) ?_
    refine R_iload rfl rfl ?_
    refine R_iload rfl rfl ?_
    refine R_iast rfl rfl rfl (show _ < 200 from by omega) ?_
    refine R_aload_n rfl rfl ?_
    refine R_getA rfl rfl (Or.inl rfl) ?_
    refine R_iload rfl rfl ?_
    refine R_aload_n rfl rfl ?_
    refine R_getI rfl rfl (Or.inl rfl) ?_
    try refine R_top (y := nI _) (by assumption) ?_
    refine R_iconst (y := nI 1) rfl (by decide) ?_
    first | refine R_iaddN rfl ?_ | refine R_iadd rfl ?_
    refine R_iast rfl rfl rfl (show _ < 200 from by omega) ?_
    refine R_aload_n rfl rfl ?_
    refine R_aload_n rfl rfl ?_
    refine R_getI rfl rfl (Or.inl rfl) ?_
    try refine R_top (y := nI _) (by assumption) ?_
    refine R_iload_n rfl rfl ?_
    first | refine R_isubN rfl (by omega) ?_ | refine R_isub rfl ?_
    refine R_iconst (y := nI 1) rfl (by decide) ?_
    first | refine R_isubN rfl (by omega) ?_ | refine R_isub rfl ?_
    refine R_put rfl rfl rfl ?_
    refine R_aload_n rfl rfl ?_
    refine R_getA rfl rfl (Or.inl rfl) ?_
    refine R_iload rfl rfl ?_
    refine R_aload_n rfl rfl ?_
    refine R_getI rfl rfl (Or.inl rfl) ?_
    try refine R_top (y := nI _) (by assumption) ?_
    refine R_iast rfl rfl rfl (show _ < 200 from by omega) ?_
    refine R_aload_n rfl rfl ?_
    refine R_dup rfl ?_
    refine R_getI rfl rfl (Or.inl rfl) ?_
    try refine R_top (y := nI _) (by assumption) ?_
    refine R_iconst (y := nI 1) rfl (by decide) ?_
    first | refine R_iaddN rfl ?_ | refine R_iadd rfl ?_
    refine R_put rfl rfl rfl ?_
    refine R_aload_n rfl rfl ?_
    refine R_iload rfl rfl ?_
    refine R_iconst (y := nI 1) rfl (by decide) ?_
    first | refine R_iaddN rfl ?_ | refine R_iadd rfl ?_
    refine R_virt rfl rfl rfl rfl rfl rfl rfl (Nat.le_of_ble_eq_true rfl) (fun _ q => by cases q) (r_well (by assumption)) ?_
    try refine R_top (y := nI _) (by assumption) ?_
    exact R_iret rfl rfl (by first | trivial | exact Or.inl rfl | exact Or.inr rfl | assumption) ⟨rfl, rfl⟩
  · intro q hq nx
    have k14' : (lcl M1 f p b q) 14 0 = nI p := k14
    have k19' : (lcl M1 f p b q) 19 f = nI (b + b2) := k19
    rw [← lcl_s] at nx
    by_cases hb : q < b
    · rw [if_pos hb, if_pos hb, show M1 12 (p - 1 - (b - 1 - q)) = (lcl M1 f p b q) 12 (p - 1 - (b - 1 - q)) from rfl, show M1 13 (p - 1 - (b - 1 - q)) = (lcl M1 f p b q) 13 (p - 1 - (b - 1 - q)) from rfl] at nx
      generalize lcl M1 f p b q = M2 at k14' k19' nx ⊢
      refine R_iload rfl rfl ?_
      refine R_aload_n rfl rfl ?_
      refine R_getA rfl rfl (Or.inl rfl) ?_
      refine R_iload rfl rfl ?_
      refine R_iald rfl rfl rfl (show _ < 200 from by omega) ?_
      try refine R_top (y := nI _) (by assumption) ?_
      refine R_icF rfl (by first | assumption | exact icF (by decide) | exact ic_F (by omega) (by omega) (by simp only [icN, not_true_eq_false, not_false_eq_true] <;> omega) | exact ic_F0 (by omega) (by simp only [icN, not_true_eq_false, not_false_eq_true] <;> omega)) ?_
      refine R_aload_n rfl rfl ?_
      refine R_getA rfl rfl (Or.inl rfl) ?_
      refine R_bipush (y := nI 16) rfl (by decide) ?_
      refine R_iload rfl rfl ?_
      first | refine R_imulN rfl ?_ | refine R_imul rfl ?_
      refine R_iload rfl rfl ?_
      first | refine R_iaddN rfl ?_ | refine R_iadd rfl ?_
      refine R_iload rfl rfl ?_
      refine R_iload_n rfl rfl ?_
      refine R_icF rfl (by first | assumption | exact icF (by decide) | exact ic_F (by omega) (by omega) (by simp only [icN, not_true_eq_false, not_false_eq_true] <;> omega) | exact ic_F0 (by omega) (by simp only [icN, not_true_eq_false, not_false_eq_true] <;> omega)) ?_
      refine R_aload_n rfl rfl ?_
      refine R_iload_n rfl rfl ?_
      refine R_iconst (y := nI 1) rfl (by decide) ?_
      first | refine R_isubN rfl (by omega) ?_ | refine R_isub rfl ?_
      refine R_iload rfl rfl ?_
      first | refine R_isubN rfl (by omega) ?_ | refine R_isub rfl ?_
      refine R_virt rfl rfl rfl rfl rfl rfl rfl (Nat.le_of_ble_eq_true rfl) (fun _ q => by cases q) (r_topKind (by first | assumption | rfl) (by omega) (by omega)) ?_
      try refine R_top (y := nI _) (by assumption) ?_
      refine R_goto (pc' := 250) rfl rfl ?_
      refine R_iast rfl rfl rfl (show _ < 3200 from by omega) ?_
      refine R_aload_n rfl rfl ?_
      refine R_getA rfl rfl (Or.inl rfl) ?_
      refine R_bipush (y := nI 16) rfl (by decide) ?_
      refine R_iload rfl rfl ?_
      first | refine R_imulN rfl ?_ | refine R_imul rfl ?_
      refine R_iload rfl rfl ?_
      first | refine R_iaddN rfl ?_ | refine R_iadd rfl ?_
      refine R_iload rfl rfl ?_
      refine R_iload_n rfl rfl ?_
      refine R_icF rfl (by first | assumption | exact icF (by decide) | exact ic_F (by omega) (by omega) (by simp only [icN, not_true_eq_false, not_false_eq_true] <;> omega) | exact ic_F0 (by omega) (by simp only [icN, not_true_eq_false, not_false_eq_true] <;> omega)) ?_
      refine R_aload_n rfl rfl ?_
      refine R_iload_n rfl rfl ?_
      refine R_iconst (y := nI 1) rfl (by decide) ?_
      first | refine R_isubN rfl (by omega) ?_ | refine R_isub rfl ?_
      refine R_iload rfl rfl ?_
      first | refine R_isubN rfl (by omega) ?_ | refine R_isub rfl ?_
      refine R_virt rfl rfl rfl rfl rfl rfl rfl (Nat.le_of_ble_eq_true rfl) (fun _ q => by cases q) (r_topNumber (by first | assumption | rfl) (by omega) (by omega)) ?_
      try refine R_top (y := nI _) (by assumption) ?_
      refine R_goto (pc' := 283) rfl rfl ?_
      refine R_iast rfl rfl rfl (show _ < 3200 from by omega) ?_
      refine R_iinc (lv' := [(8, _), (7, _), (6, _), (5, _), (4, _), (3, _), (0, _), (1, _), (2, _)]) rfl rfl (by exact nI_1 _) rfl ?_
      refine R_goto (pc' := 206) rfl rfl ?_
      exact nx
    · rw [if_neg hb, if_neg hb] at nx
      generalize lcl M1 f p b q = M2 at k14' k19' nx ⊢
      refine R_iload rfl rfl ?_
      refine R_aload_n rfl rfl ?_
      refine R_getA rfl rfl (Or.inl rfl) ?_
      refine R_iload rfl rfl ?_
      refine R_iald rfl rfl rfl (show _ < 200 from by omega) ?_
      try refine R_top (y := nI _) (by assumption) ?_
      refine R_icF rfl (by first | assumption | exact icF (by decide) | exact ic_F (by omega) (by omega) (by simp only [icN, not_true_eq_false, not_false_eq_true] <;> omega) | exact ic_F0 (by omega) (by simp only [icN, not_true_eq_false, not_false_eq_true] <;> omega)) ?_
      refine R_aload_n rfl rfl ?_
      refine R_getA rfl rfl (Or.inl rfl) ?_
      refine R_bipush (y := nI 16) rfl (by decide) ?_
      refine R_iload rfl rfl ?_
      first | refine R_imulN rfl ?_ | refine R_imul rfl ?_
      refine R_iload rfl rfl ?_
      first | refine R_iaddN rfl ?_ | refine R_iadd rfl ?_
      refine R_iload rfl rfl ?_
      refine R_iload_n rfl rfl ?_
      refine R_icT (pc' := 249) rfl rfl (by first | assumption | exact icT (by decide) | exact ic_T (by omega) (by omega) (by simp only [icN, not_true_eq_false, not_false_eq_true] <;> omega) | exact ic_T0 (by omega) (by simp only [icN, not_true_eq_false, not_false_eq_true] <;> omega)) ?_
      refine R_iconst (y := nI 0) rfl (by decide) ?_
      refine R_iast rfl rfl rfl (show _ < 3200 from by omega) ?_
      refine R_aload_n rfl rfl ?_
      refine R_getA rfl rfl (Or.inl rfl) ?_
      refine R_bipush (y := nI 16) rfl (by decide) ?_
      refine R_iload rfl rfl ?_
      first | refine R_imulN rfl ?_ | refine R_imul rfl ?_
      refine R_iload rfl rfl ?_
      first | refine R_iaddN rfl ?_ | refine R_iadd rfl ?_
      refine R_iload rfl rfl ?_
      refine R_iload_n rfl rfl ?_
      refine R_icT (pc' := 282) rfl rfl (by first | assumption | exact icT (by decide) | exact ic_T (by omega) (by omega) (by simp only [icN, not_true_eq_false, not_false_eq_true] <;> omega) | exact ic_T0 (by omega) (by simp only [icN, not_true_eq_false, not_false_eq_true] <;> omega)) ?_
      refine R_iconst (y := nI 0) rfl (by decide) ?_
      refine R_iast rfl rfl rfl (show _ < 3200 from by omega) ?_
      refine R_iinc (lv' := [(8, _), (7, _), (6, _), (5, _), (4, _), (3, _), (0, _), (1, _), (2, _)]) rfl rfl (by exact nI_1 _) rfl ?_
      refine R_goto (pc' := 206) rfl rfl ?_
      exact nx
theorem r_sendM {d : Nat} {M : Mem} {lv : Nat → Prop} {rk : Nat → Nat} {p k N b a s i n : Nat} {x : Int32} {q : Nat × Nat} {hit : Bool} {w pl f b2 m : Nat} (hp : M 14 0 = nI p) (hp1 : p ≤ 1000) (hp0 : b < p) (hk4 : k < 4) (hk : M 12 (p - 1 - b) = nI k) (hd : dwn M lv rk) (hc : chn M k (M 13 (p - 1 - b)) = -1 ∨ ∃ i, lv i ∧ chn M k (M 13 (p - 1 - b)) = nI i ∧ rk i < N) (hq : fky M p k N x b = some q) (hm : M 35 (40 * q.1 + q.2) = nI 3) (hpl : M 36 (40 * q.1 + q.2) = nI pl) (hw : M 5 0 = nI w) (hw2 : w ≤ 2000) (h1 : pl < w) (h2 : M 2 pl = nI 34) (h3 : M 3 pl = nI b) (hf : M 22 0 = nI f) (hf2 : f < 200) (ha : M 10 0 = nI a) (ha2 : a < 2000) (hs : M 11 0 = nI s) (hpr : M 25 k = -1 ∨ ∃ i, i < 1500 ∧ M 25 k = nI i) (hi : i < 1500) (hn : M 32 i = nI n) (hn4 : n ≤ 40) (hpi : M 31 i = -1 ∨ ∃ j, j < 1500 ∧ M 31 i = nI j) (hy : k = 2 → M 13 (p - 1 - b) = nI i) (hab : abv M k (M 13 (p - 1 - b)) = -1 ∨ ∃ i, lv i ∧ abv M k (M 13 (p - 1 - b)) = nI i ∧ rk i < N) (hb : hit = true ↔ (rmb M a k i ∧ clm M (M 51 a) (N + 1) (abv M k (M 13 (p - 1 - b))) = true)) (hB : M 4 pl = nI b2) (hbm : b + b2 = m) (hm16 : m ≤ 16) : CalR (d + 4) j_X9_send [.ref 0, .int x, .int (nI b)] M (some (.int 0)) (entM (metM M s n a k i hit) p f b m s a pl (nI k) (M 13 (p - 1 - b))) := by
  obtain ⟨q1, q2, hF⟩ := r_sendF (d := d) hk4 hd hc hq
  have hM := r_meet (d := d) hd ha2 hk4 hpr hi hn hn4 hpi hy hs hab hb
  refine CalR_of (md := md_X9_send) (d := d + 3) rfl (Nat.le_of_ble_eq_true rfl) ?_
  show WR (CalR (d + 3)) t_X9_send 9 (some .int) _ 0 [(0, .ref 0), (1, .int x), (2, .int (nI b))] [] _
  refine R_aload_n rfl rfl ?_
  refine R_iload_n rfl rfl ?_
  refine R_virt rfl rfl rfl rfl rfl rfl rfl (Nat.le_of_ble_eq_true rfl) (fun _ q => by cases q) (r_topKind (by first | assumption | rfl) (by omega) (by omega)) ?_
  try refine R_top (y := nI _) (by assumption) ?_
  refine R_istore_n (lv' := [(3, _), (0, _), (1, _), (2, _)]) rfl rfl ?_
  refine R_aload_n rfl rfl ?_
  refine R_iload_n rfl rfl ?_
  refine R_virt rfl rfl rfl rfl rfl rfl rfl (Nat.le_of_ble_eq_true rfl) (fun _ q => by cases q) (r_topNumber (by first | assumption | rfl) (by omega) (by omega)) ?_
  try refine R_top (y := nI _) (by assumption) ?_
  refine R_istore (lv' := [(4, _), (3, _), (0, _), (1, _), (2, _)]) rfl rfl ?_
  refine R_aload_n rfl rfl ?_
  refine R_iload_n rfl rfl ?_
  refine R_iload rfl rfl ?_
  refine R_iload_n rfl rfl ?_
  refine R_virt rfl rfl rfl rfl rfl rfl rfl (Nat.le_of_ble_eq_true rfl) (fun _ q => by cases q) (hF) ?_
  try refine R_top (y := nI _) (by assumption) ?_
  refine R_istore (lv' := [(5, _), (4, _), (3, _), (0, _), (1, _), (2, _)]) rfl rfl ?_
  refine R_iload rfl rfl ?_
  refine R_ifT (pc' := 34) rfl rfl (by first | assumption | exact icT (by decide) | exact ic_T (by omega) (by omega) (by simp only [icN, not_true_eq_false, not_false_eq_true] <;> omega) | exact ic_T0 (by omega) (by simp only [icN, not_true_eq_false, not_false_eq_true] <;> omega)) ?_
  refine R_aload_n rfl rfl ?_
  refine R_getA rfl rfl (Or.inl rfl) ?_
  refine R_iload rfl rfl ?_
  refine R_iald rfl rfl rfl (show _ < 60000 from by omega) ?_
  try refine R_top (y := nI _) (by assumption) ?_
  refine R_iconst (y := nI 3) rfl (by decide) ?_
  refine R_icT (pc' := 106) rfl rfl (by first | assumption | exact icT (by decide) | exact ic_T (by omega) (by omega) (by simp only [icN, not_true_eq_false, not_false_eq_true] <;> omega) | exact ic_T0 (by omega) (by simp only [icN, not_true_eq_false, not_false_eq_true] <;> omega)) ?_
  refine R_aload_n rfl rfl ?_
  refine R_getA rfl rfl (Or.inl rfl) ?_
  refine R_iload rfl rfl ?_
  refine R_iald rfl rfl rfl (show _ < 60000 from by omega) ?_
  try refine R_top (y := nI _) (by assumption) ?_
  refine R_istore (lv' := [(6, _), (5, _), (4, _), (3, _), (0, _), (1, _), (2, _)]) rfl rfl ?_
  refine R_iload rfl rfl ?_
  refine R_aload_n rfl rfl ?_
  refine R_getI rfl rfl (Or.inl rfl) ?_
  try refine R_top (y := nI _) (by assumption) ?_
  refine R_icF rfl (by first | assumption | exact icF (by decide) | exact ic_F (by omega) (by omega) (by simp only [icN, not_true_eq_false, not_false_eq_true] <;> omega) | exact ic_F0 (by omega) (by simp only [icN, not_true_eq_false, not_false_eq_true] <;> omega)) ?_
  refine R_aload_n rfl rfl ?_
  refine R_getA rfl rfl (Or.inl rfl) ?_
  refine R_iload rfl rfl ?_
  refine R_iald rfl rfl rfl (show _ < 2000 from by omega) ?_
  try refine R_top (y := nI _) (by assumption) ?_
  refine R_bipush (y := nI 34) rfl (by decide) ?_
  refine R_icF rfl (by first | assumption | exact icF (by decide) | exact ic_F (by omega) (by omega) (by simp only [icN, not_true_eq_false, not_false_eq_true] <;> omega) | exact ic_F0 (by omega) (by simp only [icN, not_true_eq_false, not_false_eq_true] <;> omega)) ?_
  refine R_aload_n rfl rfl ?_
  refine R_getA rfl rfl (Or.inl rfl) ?_
  refine R_iload rfl rfl ?_
  refine R_iald rfl rfl rfl (show _ < 2000 from by omega) ?_
  try refine R_top (y := nI _) (by assumption) ?_
  refine R_iload_n rfl rfl ?_
  refine R_icT (pc' := 154) rfl rfl (by first | assumption | exact icT (by decide) | exact ic_T (by omega) (by omega) (by simp only [icN, not_true_eq_false, not_false_eq_true] <;> omega) | exact ic_T0 (by omega) (by simp only [icN, not_true_eq_false, not_false_eq_true] <;> omega)) ?_
  refine R_aload_n rfl rfl ?_
  refine R_getI rfl rfl (Or.inl rfl) ?_
  try refine R_top (y := nI _) (by assumption) ?_
  refine R_sipush (y := nI 200) rfl (by decide) ?_
  refine R_icT (pc' := 170) rfl rfl (by first | assumption | exact icT (by decide) | exact ic_T (by omega) (by omega) (by simp only [icN, not_true_eq_false, not_false_eq_true] <;> omega) | exact ic_T0 (by omega) (by simp only [icN, not_true_eq_false, not_false_eq_true] <;> omega)) ?_
  refine R_aload_n rfl rfl ?_
  refine R_aload_n rfl rfl ?_
  refine R_getI rfl rfl (Or.inl rfl) ?_
  try refine R_top (y := nI _) (by assumption) ?_
  refine R_iload_n rfl rfl ?_
  refine R_iload rfl rfl ?_
  refine R_virt rfl rfl rfl rfl rfl rfl rfl (Nat.le_of_ble_eq_true rfl) (fun _ q => by cases q) (hM) ?_
  exact r_sendE (e := .null) ((metM_keep (by omega)).trans hp) hp1 hp0 ((metM_keep (by omega)).trans ha) ((metM_keep (by omega)).trans hs) ((metM_keep (by omega)).trans hf) hf2 (by omega) ((metM_keep (by omega)).trans hB) hbm hm16
