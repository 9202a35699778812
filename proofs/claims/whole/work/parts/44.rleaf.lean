/-! ===== the reference: small methods ===== -/
theorem r_isIn {d : Nat} {M : Mem} {v lo hi : Int32} : CalR (d + 1) j_X9_isIn [.int v, .int lo, .int hi] M (some (.int (if lo ≤ v ∧ v ≤ hi then 1 else 0))) M := by
  refine CalR_of (md := md_X9_isIn) rfl (Nat.le_of_ble_eq_true rfl) ?_
  show WR (CalR d) t_X9_isIn 9 (some .boolean) _ 0 [(0, .int v), (1, .int lo), (2, .int hi)] [] _
  refine R_iload_n rfl rfl ?_
  refine R_iload_n rfl rfl ?_
  refine R_icmp (pc' := 14) rfl rfl (fun hc => ?_) (fun hc => ?_)
  · rw [if_neg (fun q => absurd hc (Int32.not_lt.mpr q.1))]
    refine R_iconst (y := nI 0) rfl (by decide) ?_
    exact R_iret rfl rfl (by first | trivial | exact Or.inl rfl | exact Or.inr rfl | assumption) ⟨rfl, rfl⟩
  · have h1 := hc
    refine R_iload_n rfl rfl ?_
    refine R_iload_n rfl rfl ?_
    refine R_icmp (pc' := 14) rfl rfl (fun hc => ?_) (fun hc => ?_)
    · rw [if_neg (fun q => absurd hc (Int32.not_lt.mpr q.2))]
      refine R_iconst (y := nI 0) rfl (by decide) ?_
      exact R_iret rfl rfl (by first | trivial | exact Or.inl rfl | exact Or.inr rfl | assumption) ⟨rfl, rfl⟩
    · rw [if_pos ⟨Int32.not_lt.mp h1, Int32.not_lt.mp hc⟩]
      refine R_iconst (y := nI 1) rfl (by decide) ?_
      refine R_goto (pc' := 15) rfl rfl ?_
      exact R_iret rfl rfl (by first | trivial | exact Or.inl rfl | exact Or.inr rfl | assumption) ⟨rfl, rfl⟩
theorem r_sizeOf {d : Nat} {M : Mem} {i n : Nat} (hi : i < 1500) (hn : M 32 i = nI n) : CalR (d + 1) j_X9_sizeOf [.ref 0, .int (nI i)] M (some (.int (nI (3 + n)))) M := by
  refine CalR_of (md := md_X9_sizeOf) rfl (Nat.le_of_ble_eq_true rfl) ?_
  show WR (CalR d) t_X9_sizeOf 9 (some .int) _ 0 [(0, .ref 0), (1, .int (nI i))] [] _
  refine R_iconst (y := nI 3) rfl (by decide) ?_
  refine R_aload_n rfl rfl ?_
  refine R_getA rfl rfl (Or.inl rfl) ?_
  refine R_iload_n rfl rfl ?_
  refine R_iald rfl rfl rfl (show _ < 1500 from by omega) ?_
  try refine R_top (y := nI _) (by assumption) ?_
  first | refine R_iaddN rfl ?_ | refine R_iadd rfl ?_
  exact R_iret rfl rfl (by first | trivial | exact Or.inl rfl | exact Or.inr rfl | assumption) ⟨rfl, rfl⟩
theorem r_mark0 {d : Nat} {M : Mem} {k x : Int32} (hk : k ≠ 2) : CalR (d + 1) j_X9_mark [.ref 0, .int k, .int x] M none M := by
  refine CalR_of (md := md_X9_mark) rfl (Nat.le_of_ble_eq_true rfl) ?_
  show WR (CalR d) t_X9_mark 9 none _ 0 [(0, .ref 0), (1, .int k), (2, .int x)] [] _
  refine R_iload_n rfl rfl ?_
  refine R_iconst (y := nI 2) rfl (by decide) ?_
  refine R_icmp (pc' := 41) rfl rfl (fun hc => ?_) (fun hc => ?_)
  · exact R_ret rfl rfl ⟨rfl, rfl⟩
  · exact absurd (fun q => hk q) hc
theorem r_mark1 {d : Nat} {M : Mem} {i : Nat} (hi : i < 1500) (hm : ¬ M 37 i = 0) : CalR (d + 1) j_X9_mark [.ref 0, .int 2, .int (nI i)] M none M := by
  refine CalR_of (md := md_X9_mark) rfl (Nat.le_of_ble_eq_true rfl) ?_
  show WR (CalR d) t_X9_mark 9 none _ 0 [(0, .ref 0), (1, .int 2), (2, .int (nI i))] [] _
  refine R_iload_n rfl rfl ?_
  refine R_iconst (y := nI 2) rfl (by decide) ?_
  refine R_icmp (pc' := 41) rfl rfl (fun hc => ?_) (fun hc => ?_)
  · exact absurd rfl hc
  · refine R_aload_n rfl rfl ?_
    refine R_getA rfl rfl (Or.inr rfl) ?_
    refine R_iload_n rfl rfl ?_
    refine R_bald rfl rfl rfl (show _ < 1500 from by omega) ?_
    try refine R_top (y := nI _) (by assumption) ?_
    refine R_if (pc' := 41) rfl rfl (fun hc => ?_) (fun hc => ?_)
    · exact R_ret rfl rfl ⟨rfl, rfl⟩
    · exact absurd hm hc
theorem r_mark2 {d : Nat} {M : Mem} {i q : Nat} (hi : i < 1500) (hq : q < 1500) (hm : M 37 i = 0) (hqq : M 39 0 = nI q) : CalR (d + 1) j_X9_mark [.ref 0, .int 2, .int (nI i)] M none (up2 (up2 (up2 M 37 i 1) 38 q (nI i)) 39 0 (nI (q + 1))) := by
  refine CalR_of (md := md_X9_mark) rfl (Nat.le_of_ble_eq_true rfl) ?_
  show WR (CalR d) t_X9_mark 9 none _ 0 [(0, .ref 0), (1, .int 2), (2, .int (nI i))] [] _
  refine R_iload_n rfl rfl ?_
  refine R_iconst (y := nI 2) rfl (by decide) ?_
  refine R_icmp (pc' := 41) rfl rfl (fun hc => ?_) (fun hc => ?_)
  · exact absurd rfl hc
  · refine R_aload_n rfl rfl ?_
    refine R_getA rfl rfl (Or.inr rfl) ?_
    refine R_iload_n rfl rfl ?_
    refine R_bald rfl rfl rfl (show _ < 1500 from by omega) ?_
    try refine R_top (y := nI _) (by assumption) ?_
    refine R_if (pc' := 41) rfl rfl (fun hc => ?_) (fun hc => ?_)
    · exact absurd nI_0 hc
    · refine R_aload_n rfl rfl ?_
      refine R_getA rfl rfl (Or.inr rfl) ?_
      refine R_iload_n rfl rfl ?_
      refine R_iconst (y := nI 1) rfl (by decide) ?_
      refine R_bast rfl rfl rfl (show _ < 1500 from by omega) (by first | exact Or.inl rfl | exact Or.inr rfl | assumption) ?_
      refine R_aload_n rfl rfl ?_
      refine R_getA rfl rfl (Or.inl rfl) ?_
      refine R_aload_n rfl rfl ?_
      refine R_getI rfl rfl (Or.inl rfl) ?_
      try refine R_top (y := nI _) (by assumption) ?_
      refine R_iload_n rfl rfl ?_
      refine R_iast rfl rfl rfl (show _ < 1500 from by omega) ?_
      refine R_aload_n rfl rfl ?_
      refine R_dup rfl ?_
      refine R_getI rfl rfl (Or.inl rfl) ?_
      try refine R_top (y := nI _) (by assumption) ?_
      refine R_iconst (y := nI 1) rfl (by decide) ?_
      first | refine R_iaddN rfl ?_ | refine R_iadd rfl ?_
      refine R_put rfl rfl rfl ?_
      exact R_ret rfl rfl ⟨rfl, rfl⟩
theorem r_topKind {d : Nat} {M : Mem} {p e : Nat} (hp : M 14 0 = nI p) (hp1 : p ≤ 1000) (he : e < p) : CalR (d + 1) j_X9_topKind [.ref 0, .int (nI e)] M (some (.int (M 12 (p - 1 - e)))) M := by
  refine CalR_of (md := md_X9_topKind) rfl (Nat.le_of_ble_eq_true rfl) ?_
  show WR (CalR d) t_X9_topKind 9 (some .int) _ 0 [(0, .ref 0), (1, .int (nI e))] [] _
  refine R_aload_n rfl rfl ?_
  refine R_getA rfl rfl (Or.inl rfl) ?_
  refine R_aload_n rfl rfl ?_
  refine R_getI rfl rfl (Or.inl rfl) ?_
  try refine R_top (y := nI _) (by assumption) ?_
  refine R_iconst (y := nI 1) rfl (by decide) ?_
  first | refine R_isubN rfl (by omega) ?_ | refine R_isub rfl ?_
  refine R_iload_n rfl rfl ?_
  first | refine R_isubN rfl (by omega) ?_ | refine R_isub rfl ?_
  refine R_iald rfl rfl rfl (show _ < 1000 from by omega) ?_
  try refine R_top (y := nI _) (by assumption) ?_
  exact R_iret rfl rfl (by first | trivial | exact Or.inl rfl | exact Or.inr rfl | assumption) ⟨rfl, rfl⟩
theorem r_topNumber {d : Nat} {M : Mem} {p e : Nat} (hp : M 14 0 = nI p) (hp1 : p ≤ 1000) (he : e < p) : CalR (d + 1) j_X9_topNumber [.ref 0, .int (nI e)] M (some (.int (M 13 (p - 1 - e)))) M := by
  refine CalR_of (md := md_X9_topNumber) rfl (Nat.le_of_ble_eq_true rfl) ?_
  show WR (CalR d) t_X9_topNumber 9 (some .int) _ 0 [(0, .ref 0), (1, .int (nI e))] [] _
  refine R_aload_n rfl rfl ?_
  refine R_getA rfl rfl (Or.inl rfl) ?_
  refine R_aload_n rfl rfl ?_
  refine R_getI rfl rfl (Or.inl rfl) ?_
  try refine R_top (y := nI _) (by assumption) ?_
  refine R_iconst (y := nI 1) rfl (by decide) ?_
  first | refine R_isubN rfl (by omega) ?_ | refine R_isub rfl ?_
  refine R_iload_n rfl rfl ?_
  first | refine R_isubN rfl (by omega) ?_ | refine R_isub rfl ?_
  refine R_iald rfl rfl rfl (show _ < 1000 from by omega) ?_
  try refine R_top (y := nI _) (by assumption) ?_
  exact R_iret rfl rfl (by first | trivial | exact Or.inl rfl | exact Or.inr rfl | assumption) ⟨rfl, rfl⟩
def pushM (M : Mem) (p : Nat) (k x : Int32) : Mem := up2 (up2 (up2 M 12 p k) 13 p x) 14 0 (nI (p + 1))
theorem r_push {d : Nat} {M : Mem} {p : Nat} {k x : Int32} (hp : M 14 0 = nI p) (hp1 : p < 1000) : CalR (d + 1) j_X9_push [.ref 0, .int k, .int x] M none (pushM M p k x) := by
  refine CalR_of (md := md_X9_push) rfl (Nat.le_of_ble_eq_true rfl) ?_
  show WR (CalR d) t_X9_push 9 none _ 0 [(0, .ref 0), (1, .int k), (2, .int x)] [] _
  refine R_aload_n rfl rfl ?_
  refine R_getA rfl rfl (Or.inl rfl) ?_
  refine R_aload_n rfl rfl ?_
  refine R_getI rfl rfl (Or.inl rfl) ?_
  try refine R_top (y := nI _) (by assumption) ?_
  refine R_iload_n rfl rfl ?_
  refine R_iast rfl rfl rfl (show _ < 1000 from by omega) ?_
  refine R_aload_n rfl rfl ?_
  refine R_getA rfl rfl (Or.inl rfl) ?_
  refine R_aload_n rfl rfl ?_
  refine R_getI rfl rfl (Or.inl rfl) ?_
  try refine R_top (y := nI _) (by assumption) ?_
  refine R_iload_n rfl rfl ?_
  refine R_iast rfl rfl rfl (show _ < 1000 from by omega) ?_
  refine R_aload_n rfl rfl ?_
  refine R_dup rfl ?_
  refine R_getI rfl rfl (Or.inl rfl) ?_
  try refine R_top (y := nI _) (by assumption) ?_
  refine R_iconst (y := nI 1) rfl (by decide) ?_
  first | refine R_iaddN rfl ?_ | refine R_iadd rfl ?_
  refine R_put rfl rfl rfl ?_
  exact R_ret rfl rfl ⟨rfl, rfl⟩
theorem r_ends {d : Nat} {M : Mem} {x : Int32} : CalR (d + 1) j_X9_ends [.ref 0, .int x] M (some (.int x)) (up2 M 9 0 x) := by
  refine CalR_of (md := md_X9_ends) rfl (Nat.le_of_ble_eq_true rfl) ?_
  show WR (CalR d) t_X9_ends 9 (some .int) _ 0 [(0, .ref 0), (1, .int x)] [] _
  refine R_aload_n rfl rfl ?_
  refine R_iload_n rfl rfl ?_
  refine R_put rfl rfl rfl ?_
  refine R_iload_n rfl rfl ?_
  exact R_iret rfl rfl (by first | trivial | exact Or.inl rfl | exact Or.inr rfl | assumption) ⟨rfl, rfl⟩
theorem r_well {d : Nat} {M : Mem} {x : Int32} {s : Nat} (hs : M 11 0 = nI s) : CalR (d + 1) j_X9_well [.ref 0, .int x] M (some (.int 0)) (up2 (up2 M 10 0 x) 11 0 (nI (s + 1))) := by
  refine CalR_of (md := md_X9_well) rfl (Nat.le_of_ble_eq_true rfl) ?_
  show WR (CalR d) t_X9_well 9 (some .int) _ 0 [(0, .ref 0), (1, .int x)] [] _
  refine R_aload_n rfl rfl ?_
  refine R_iload_n rfl rfl ?_
  refine R_put rfl rfl rfl ?_
  refine R_aload_n rfl rfl ?_
  refine R_dup rfl ?_
  refine R_getI rfl rfl (Or.inl rfl) ?_
  try refine R_top (y := nI _) (by assumption) ?_
  refine R_iconst (y := nI 1) rfl (by decide) ?_
  first | refine R_iaddN rfl ?_ | refine R_iadd rfl ?_
  refine R_put rfl rfl rfl ?_
  refine R_iconst (y := nI 0) rfl (by decide) ?_
  exact R_iret rfl rfl (by first | trivial | exact Or.inl rfl | exact Or.inr rfl | assumption) ⟨rfl, rfl⟩
theorem r_touch {d : Nat} {M : Mem} {i s : Nat} (hi : i < 1500) (hs : M 11 0 = nI s) : CalR (d + 1) j_X9_touch [.ref 0, .int (nI i)] M none (up2 M 33 i (nI (s + 1))) := by
  refine CalR_of (md := md_X9_touch) rfl (Nat.le_of_ble_eq_true rfl) ?_
  show WR (CalR d) t_X9_touch 9 none _ 0 [(0, .ref 0), (1, .int (nI i))] [] _
  refine R_aload_n rfl rfl ?_
  refine R_getA rfl rfl (Or.inl rfl) ?_
  refine R_iload_n rfl rfl ?_
  refine R_aload_n rfl rfl ?_
  refine R_getI rfl rfl (Or.inl rfl) ?_
  try refine R_top (y := nI _) (by assumption) ?_
  refine R_iconst (y := nI 1) rfl (by decide) ?_
  first | refine R_iaddN rfl ?_ | refine R_iadd rfl ?_
  refine R_iast rfl rfl rfl (show _ < 1500 from by omega) ?_
  exact R_ret rfl rfl ⟨rfl, rfl⟩
theorem r_chainOf2 {d : Nat} {M : Mem} {x : Int32} : CalR (d + 1) j_X9_chainOf [.ref 0, .int 2, .int x] M (some (.int x)) M := by
  refine CalR_of (md := md_X9_chainOf) rfl (Nat.le_of_ble_eq_true rfl) ?_
  show WR (CalR d) t_X9_chainOf 9 (some .int) _ 0 [(0, .ref 0), (1, .int 2), (2, .int x)] [] _
  refine R_iload_n rfl rfl ?_
  refine R_iconst (y := nI 2) rfl (by decide) ?_
  refine R_icmp (pc' := 9) rfl rfl (fun hc => ?_) (fun hc => ?_)
  · exact absurd rfl hc
  · refine R_iload_n rfl rfl ?_
    refine R_goto (pc' := 15) rfl rfl ?_
    exact R_iret rfl rfl (by first | trivial | exact Or.inl rfl | exact Or.inr rfl | assumption) ⟨rfl, rfl⟩
theorem r_chainOf {d : Nat} {M : Mem} {k : Nat} {x : Int32} (hk : k < 4) (hk2 : k ≠ 2) : CalR (d + 1) j_X9_chainOf [.ref 0, .int (nI k), .int x] M (some (.int (M 25 k))) M := by
  refine CalR_of (md := md_X9_chainOf) rfl (Nat.le_of_ble_eq_true rfl) ?_
  show WR (CalR d) t_X9_chainOf 9 (some .int) _ 0 [(0, .ref 0), (1, .int (nI k)), (2, .int x)] [] _
  refine R_iload_n rfl rfl ?_
  refine R_iconst (y := nI 2) rfl (by decide) ?_
  refine R_icmp (pc' := 9) rfl rfl (fun hc => ?_) (fun hc => ?_)
  · refine R_aload_n rfl rfl ?_
    refine R_getA rfl rfl (Or.inl rfl) ?_
    refine R_iload_n rfl rfl ?_
    refine R_iald rfl rfl rfl (show _ < 4 from by omega) ?_
    try refine R_top (y := nI _) (by assumption) ?_
    exact R_iret rfl rfl (by first | trivial | exact Or.inl rfl | exact Or.inr rfl | assumption) ⟨rfl, rfl⟩
  · exact absurd (fun q => hk2 ((nI_eq (by omega) (by omega)).mp q)) hc
theorem r_serialN {d : Nat} {M : Mem} : CalR (d + 1) j_X9_serialAt [.ref 0, .int (-1)] M (some (.int 0)) M := by
  refine CalR_of (md := md_X9_serialAt) rfl (Nat.le_of_ble_eq_true rfl) ?_
  show WR (CalR d) t_X9_serialAt 9 (some .int) _ 0 [(0, .ref 0), (1, .int (-1))] [] _
  refine R_iload_n rfl rfl ?_
  refine R_if (pc' := 8) rfl rfl (fun hc => ?_) (fun hc => ?_)
  · exact absurd hc (show ¬ (0 : Int32) ≤ -1 by decide)
  · refine R_iconst (y := nI 0) rfl (by decide) ?_
    refine R_goto (pc' := 14) rfl rfl ?_
    exact R_iret rfl rfl (by first | trivial | exact Or.inl rfl | exact Or.inr rfl | assumption) ⟨rfl, rfl⟩
theorem r_serialAt {d : Nat} {M : Mem} {i : Nat} (hi : i < 1500) : CalR (d + 1) j_X9_serialAt [.ref 0, .int (nI i)] M (some (.int (M 29 i))) M := by
  refine CalR_of (md := md_X9_serialAt) rfl (Nat.le_of_ble_eq_true rfl) ?_
  show WR (CalR d) t_X9_serialAt 9 (some .int) _ 0 [(0, .ref 0), (1, .int (nI i))] [] _
  refine R_iload_n rfl rfl ?_
  refine R_if (pc' := 8) rfl rfl (fun hc => ?_) (fun hc => ?_)
  · refine R_aload_n rfl rfl ?_
    refine R_getA rfl rfl (Or.inl rfl) ?_
    refine R_iload_n rfl rfl ?_
    refine R_iald rfl rfl rfl (show _ < 1500 from by omega) ?_
    try refine R_top (y := nI _) (by assumption) ?_
    exact R_iret rfl rfl (by first | trivial | exact Or.inl rfl | exact Or.inr rfl | assumption) ⟨rfl, rfl⟩
  · exact absurd (nI_pos' (by omega)) hc
theorem r_ownSlot_none {d : Nat} {M : Mem} {i n : Nat} {x : Int32} (hi : i < 1500) (hn : M 32 i = nI n) (hn4 : n ≤ 40) (hx : ∀ s, s < n → M 34 (40 * i + s) ≠ x) : CalR (d + 1) j_X9_ownSlot [.ref 0, .int (nI i), .int x] M (some (.int (-1))) M := by
  refine CalR_of (md := md_X9_ownSlot) rfl (Nat.le_of_ble_eq_true rfl) ?_
  show WR (CalR d) t_X9_ownSlot 9 (some .int) _ 0 [(0, .ref 0), (1, .int (nI i)), (2, .int x)] [] _
  refine R_iconst (y := nI 0) rfl (by decide) ?_
  refine R_istore_n (lv' := [(3, _), (0, _), (1, _), (2, _)]) rfl rfl ?_
  have lp : ∀ (k s : Nat), s ≤ n → n - s ≤ k → WR (CalR d) t_X9_ownSlot 9 (some .int) (fun v' M' => v' = some (.int (-1)) ∧ M' = M) 2 [(3, .int (nI s)), (0, .ref 0), (1, .int (nI i)), (2, .int x)] [] M := by
    intro k
    induction k with
    | zero =>
      intro s hs hk
      refine R_iload_n rfl rfl ?_
      refine R_aload_n rfl rfl ?_
      refine R_getA rfl rfl (Or.inl rfl) ?_
      refine R_iload_n rfl rfl ?_
      refine R_iald rfl rfl rfl (show _ < 1500 from by omega) ?_
      try refine R_top (y := nI _) (by assumption) ?_
      refine R_icmp (pc' := 40) rfl rfl (fun hc => ?_) (fun hc => ?_)
      · refine R_iconst (y := (-1)) rfl (by decide) ?_
        exact R_iret rfl rfl (by first | trivial | exact Or.inl rfl | exact Or.inr rfl | assumption) ⟨rfl, rfl⟩
      · exact absurd (nI_le (by omega) (by omega)) hc
    | succ k ih =>
      intro s hs hk
      refine R_iload_n rfl rfl ?_
      refine R_aload_n rfl rfl ?_
      refine R_getA rfl rfl (Or.inl rfl) ?_
      refine R_iload_n rfl rfl ?_
      refine R_iald rfl rfl rfl (show _ < 1500 from by omega) ?_
      try refine R_top (y := nI _) (by assumption) ?_
      refine R_icmp (pc' := 40) rfl rfl (fun hc => ?_) (fun hc => ?_)
      · refine R_iconst (y := (-1)) rfl (by decide) ?_
        exact R_iret rfl rfl (by first | trivial | exact Or.inl rfl | exact Or.inr rfl | assumption) ⟨rfl, rfl⟩
      · have hlt : s < n := Nat.lt_of_not_le (fun q => hc (nI_le q (by omega)))
        refine R_aload_n rfl rfl ?_
        refine R_getA rfl rfl (Or.inl rfl) ?_
        refine R_bipush (y := nI 40) rfl (by decide) ?_
        refine R_iload_n rfl rfl ?_
        first | refine R_imulN rfl ?_ | refine R_imul rfl ?_
        refine R_iload_n rfl rfl ?_
        first | refine R_iaddN rfl ?_ | refine R_iadd rfl ?_
        refine R_iald rfl rfl rfl (show _ < 60000 from by omega) ?_
        try refine R_top (y := nI _) (by assumption) ?_
        refine R_iload_n rfl rfl ?_
        refine R_icmp (pc' := 34) rfl rfl (fun hc => ?_) (fun hc => ?_)
        · refine R_iinc (lv' := [(3, _), (0, _), (1, _), (2, _)]) rfl rfl (by exact nI_1 _) rfl ?_
          refine R_goto (pc' := 2) rfl rfl ?_
          exact ih (s + 1) (by omega) (by omega)
        · exact absurd (hx s hlt) hc
  exact lp n 0 (Nat.zero_le _) (Nat.le_refl _)
