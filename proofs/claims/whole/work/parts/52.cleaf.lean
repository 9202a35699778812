/-! ===== the class: values packed in one number, small methods ===== -/
def pkv (k x : Int32) : Int64 := (k.toInt64 <<< ((nI 32).toInt64 &&& 63)) ||| (x.toInt64 &&& 4294967295)
def knd (v : Int64) : Int32 := (v.toUInt64 >>> ((nI 32).toInt64.toUInt64 &&& Int64.toUInt64 63)).toInt64.toInt32
theorem c_pack {X : Ev} {d : Nat} {S : CS} {k x : Int32} : CalC X (d + 1) j_X8_pack [.int k, .int x] S (fun v S' => v = some (.long (pkv k x)) ∧ S' = S) := by
  refine CalC_of (md := md_X8_pack) rfl (Nat.le_of_ble_eq_true rfl) ?_
  show WC X d t_X8_pack 8 (some .long) _ 0 [(0, .int k), (1, .int x)] [] _
  refine C_iload_n rfl rfl ?_
  refine C_i2l rfl ?_
  refine C_bipush (y := nI 32) rfl (by decide) ?_
  refine C_lshl rfl rfl ?_
  refine C_iload_n rfl rfl ?_
  refine C_i2l rfl ?_
  refine C_ldc2_w rfl rfl ?_
  refine C_land rfl ?_
  refine C_lor rfl ?_
  exact C_lret rfl rfl ⟨rfl, rfl⟩
theorem c_kindOf {X : Ev} {d : Nat} {S : CS} {x : Int64} : CalC X (d + 1) j_X8_kindOf [.long x] S (fun v S' => v = some (.int (knd x)) ∧ S' = S) := by
  refine CalC_of (md := md_X8_kindOf) rfl (Nat.le_of_ble_eq_true rfl) ?_
  show WC X d t_X8_kindOf 8 (some .int) _ 0 [(0, .long x)] [] _
  refine C_lload_n rfl rfl ?_
  refine C_bipush (y := nI 32) rfl (by decide) ?_
  refine C_lushr rfl rfl ?_
  refine C_l2i rfl ?_
  exact C_iret rfl rfl (by first | trivial | exact Or.inl rfl | exact Or.inr rfl | assumption) ⟨rfl, rfl⟩
theorem c_numberOf {X : Ev} {d : Nat} {S : CS} {x : Int64} : CalC X (d + 1) j_X8_numberOf [.long x] S (fun v S' => v = some (.int x.toInt32) ∧ S' = S) := by
  refine CalC_of (md := md_X8_numberOf) rfl (Nat.le_of_ble_eq_true rfl) ?_
  show WC X d t_X8_numberOf 8 (some .int) _ 0 [(0, .long x)] [] _
  refine C_lload_n rfl rfl ?_
  refine C_l2i rfl ?_
  exact C_iret rfl rfl (by first | trivial | exact Or.inl rfl | exact Or.inr rfl | assumption) ⟨rfl, rfl⟩
theorem c_truth {X : Ev} {d : Nat} {S : CS} {x : Int32} : CalC X (d + 2) j_X8_truth [.int x] S (fun v S' => v = some (.long (pkv 1 (if x = 0 then 0 else 1))) ∧ S' = S) := by
  refine CalC_of (md := md_X8_truth) (d := d + 1) rfl (Nat.le_of_ble_eq_true rfl) ?_
  show WC X (d + 1) t_X8_truth 8 (some .long) _ 0 [(0, .int x)] [] _
  refine C_iconst (y := nI 1) rfl (by decide) ?_
  refine C_iload_n rfl rfl ?_
  refine C_if (pc' := 9) rfl rfl (fun hc => ?_) (fun hc => ?_)
  · rw [if_pos (show x = 0 from hc)]
    refine C_iconst (y := nI 0) rfl (by decide) ?_
    refine C_stat rfl rfl (by decide) rfl (Nat.le_of_ble_eq_true rfl) rfl rfl (Nat.le_of_ble_eq_true rfl) (c_pack) ?_
    rintro _ _ ⟨rfl, rfl⟩
    exact C_lret rfl rfl ⟨rfl, rfl⟩
  · rw [if_neg (show ¬ x = 0 from hc)]
    refine C_iconst (y := nI 1) rfl (by decide) ?_
    refine C_goto (pc' := 10) rfl rfl ?_
    refine C_stat rfl rfl (by decide) rfl (Nat.le_of_ble_eq_true rfl) rfl rfl (Nat.le_of_ble_eq_true rfl) (c_pack) ?_
    rintro _ _ ⟨rfl, rfl⟩
    exact C_lret rfl rfl ⟨rfl, rfl⟩
theorem c_told0 {X : Ev} {d : Nat} {S : CS} {x : Int64} : CalC X (d + 2) j_X8_told [.long x, .int 0] S (fun v S' => v = some (.int (knd x)) ∧ S' = S) := by
  refine CalC_of (md := md_X8_told) (d := d + 1) rfl (Nat.le_of_ble_eq_true rfl) ?_
  show WC X (d + 1) t_X8_told 8 (some .int) _ 0 [(0, .long x), (2, .int 0)] [] _
  refine C_iload_n rfl rfl ?_
  refine C_lookup (pc' := 28) rfl (by decide) ?_
  refine C_lload_n rfl rfl ?_
  refine C_stat rfl rfl (by decide) rfl (Nat.le_of_ble_eq_true rfl) rfl rfl (Nat.le_of_ble_eq_true rfl) (c_kindOf) ?_
  rintro _ _ ⟨rfl, rfl⟩
  exact C_iret rfl rfl (by first | trivial | exact Or.inl rfl | exact Or.inr rfl | assumption) ⟨rfl, rfl⟩
theorem c_told1 {X : Ev} {d : Nat} {S : CS} {x : Int64} : CalC X (d + 2) j_X8_told [.long x, .int 1] S (fun v S' => v = some (.int x.toInt32) ∧ S' = S) := by
  refine CalC_of (md := md_X8_told) (d := d + 1) rfl (Nat.le_of_ble_eq_true rfl) ?_
  show WC X (d + 1) t_X8_told 8 (some .int) _ 0 [(0, .long x), (2, .int 1)] [] _
  refine C_iload_n rfl rfl ?_
  refine C_lookup (pc' := 33) rfl (by decide) ?_
  refine C_lload_n rfl rfl ?_
  refine C_stat rfl rfl (by decide) rfl (Nat.le_of_ble_eq_true rfl) rfl rfl (Nat.le_of_ble_eq_true rfl) (c_numberOf) ?_
  rintro _ _ ⟨rfl, rfl⟩
  exact C_iret rfl rfl (by first | trivial | exact Or.inl rfl | exact Or.inr rfl | assumption) ⟨rfl, rfl⟩
theorem c_told {X : Ev} {d : Nat} {S : CS} {x : Int64} {w : Int32} (h0 : ¬ w = 0) (h1 : ¬ w = 1) : CalC X (d + 2) j_X8_told [.long x, .int w] S (fun v S' => v = some (.int (-1)) ∧ S' = S) := by
  refine CalC_of (md := md_X8_told) (d := d + 1) rfl (Nat.le_of_ble_eq_true rfl) ?_
  show WC X (d + 1) t_X8_told 8 (some .int) _ 0 [(0, .long x), (2, .int w)] [] _
  refine C_iload_n rfl rfl ?_
  refine C_lookup (pc' := 38) rfl (by
    show jt 1 (Op.lookupswitch.offset [(0, 27), (1, 32)] 37 w.toInt) = 38
    rw [lv_osw h0 (by decide), lv_osw h1 (by decide)]
    rfl) ?_
  refine C_iconst (y := (-1)) rfl (by decide) ?_
  exact C_iret rfl rfl (by first | trivial | exact Or.inl rfl | exact Or.inr rfl | assumption) ⟨rfl, rfl⟩
theorem c_size {X : Ev} {d : Nat} {S : CS} {i n : Nat} (he : cE S 8 i = true) (hn : cI S 8 4 i = nI n) : CalC X (d + 1) j_X6_size [.ref (cA S 8 i)] S (fun v S' => v = some (.int (nI (3 + n))) ∧ S' = S) := by
  refine CalC_of (md := md_X6_size) rfl (Nat.le_of_ble_eq_true rfl) ?_
  show WC X d t_X6_size 6 (some .int) _ 0 [(0, .ref (cA S 8 i))] [] _
  refine C_iconst (y := nI 3) rfl (by decide) ?_
  first | refine C_aload_n rfl rfl ?_ | refine C_aload_nN rfl rfl ?_
  refine C_getI (t0 := 8) rfl rfl (by decide) rfl rfl (Or.inl rfl) rfl (by assumption) ?_
  try refine C_topi (y := nI _) (by assumption) ?_
  first | refine C_iaddN rfl ?_ | refine C_iadd rfl ?_
  exact C_iret rfl rfl (by first | trivial | exact Or.inl rfl | exact Or.inr rfl | assumption) ⟨rfl, rfl⟩
theorem c_youngLeft {X : Ev} {d : Nat} {S : CS} (he : cE S 3 0 = true) : CalC X (d + 1) j_X2_youngLeft [.ref (cA S 3 0)] S (fun v S' => v = some (.int (cI S 3 8 0 - cI S 3 0 0)) ∧ S' = S) := by
  refine CalC_of (md := md_X2_youngLeft) rfl (Nat.le_of_ble_eq_true rfl) ?_
  show WC X d t_X2_youngLeft 2 (some .int) _ 0 [(0, .ref (cA S 3 0))] [] _
  first | refine C_aload_n rfl rfl ?_ | refine C_aload_nN rfl rfl ?_
  refine C_getI (t0 := 3) rfl rfl (by decide) rfl rfl (Or.inl rfl) rfl (by assumption) ?_
  try refine C_topi (y := nI _) (by assumption) ?_
  first | refine C_aload_n rfl rfl ?_ | refine C_aload_nN rfl rfl ?_
  refine C_getI (t0 := 3) rfl rfl (by decide) rfl rfl (Or.inl rfl) rfl (by assumption) ?_
  try refine C_topi (y := nI _) (by assumption) ?_
  first | refine C_isubN rfl (by omega) ?_ | refine C_isub rfl ?_
  exact C_iret rfl rfl (by first | trivial | exact Or.inl rfl | exact Or.inr rfl | assumption) ⟨rfl, rfl⟩
theorem c_oldLeft {X : Ev} {d : Nat} {S : CS} (he : cE S 3 0 = true) : CalC X (d + 1) j_X2_oldLeft [.ref (cA S 3 0)] S (fun v S' => v = some (.int (cI S 3 9 0 - cI S 3 1 0)) ∧ S' = S) := by
  refine CalC_of (md := md_X2_oldLeft) rfl (Nat.le_of_ble_eq_true rfl) ?_
  show WC X d t_X2_oldLeft 2 (some .int) _ 0 [(0, .ref (cA S 3 0))] [] _
  first | refine C_aload_n rfl rfl ?_ | refine C_aload_nN rfl rfl ?_
  refine C_getI (t0 := 3) rfl rfl (by decide) rfl rfl (Or.inl rfl) rfl (by assumption) ?_
  try refine C_topi (y := nI _) (by assumption) ?_
  first | refine C_aload_n rfl rfl ?_ | refine C_aload_nN rfl rfl ?_
  refine C_getI (t0 := 3) rfl rfl (by decide) rfl rfl (Or.inl rfl) rfl (by assumption) ?_
  try refine C_topi (y := nI _) (by assumption) ?_
  first | refine C_isubN rfl (by omega) ?_ | refine C_isub rfl ?_
  exact C_iret rfl rfl (by first | trivial | exact Or.inl rfl | exact Or.inr rfl | assumption) ⟨rfl, rfl⟩
theorem c_indexOf {X : Ev} {d : Nat} {S : CS} {i n : Nat} {x : Int32} (hnp : xN X < 2 ^ 31) (he : cE S 8 i = true) (hen : cE S 18 i = true) (hp : cP S 8 1 i = some (cA S 18 i)) (hn : cI S 8 4 i = nI n) (hn4 : n ≤ 40) (hx : ∀ s, s < n → cI S 18 s i ≠ x) : CalC X (d + 1) j_X6_indexOf [.ref (cA S 8 i), .int x] S (fun v S' => v = some (.int (-1)) ∧ S' = S) := by
  refine CalC_of (md := md_X6_indexOf) rfl (Nat.le_of_ble_eq_true rfl) ?_
  show WC X d t_X6_indexOf 6 (some .int) _ 0 [(0, .ref (cA S 8 i)), (1, .int x)] [] _
  refine C_iconst (y := nI 0) rfl (by decide) ?_
  refine C_istore_n (lv' := [(2, _), (0, _), (1, _)]) rfl rfl ?_
  have lp : ∀ (k s : Nat), s ≤ n → n - s ≤ k → WC X d t_X6_indexOf 6 (some .int) (fun v S' => v = some (.int (-1)) ∧ S' = S) 2 [(2, .int (nI s)), (0, .ref (cA S 8 i)), (1, .int x)] [] S := by
    intro k
    induction k with
    | zero =>
      intro s hs hk
      refine C_iload_n rfl rfl ?_
      first | refine C_aload_n rfl rfl ?_ | refine C_aload_nN rfl rfl ?_
      refine C_getI (t0 := 8) rfl rfl (by decide) rfl rfl (Or.inl rfl) rfl (by assumption) ?_
      try refine C_topi (y := nI _) (by assumption) ?_
      refine C_icmp (pc' := 28) rfl rfl (fun hc => ?_) (fun hc => ?_)
      · refine C_iconst (y := (-1)) rfl (by decide) ?_
        exact C_iret rfl rfl (by first | trivial | exact Or.inl rfl | exact Or.inr rfl | assumption) ⟨rfl, rfl⟩
      · exact absurd (nI_le (by omega) (by omega)) hc
    | succ k ih =>
      intro s hs hk
      refine C_iload_n rfl rfl ?_
      first | refine C_aload_n rfl rfl ?_ | refine C_aload_nN rfl rfl ?_
      refine C_getI (t0 := 8) rfl rfl (by decide) rfl rfl (Or.inl rfl) rfl (by assumption) ?_
      try refine C_topi (y := nI _) (by assumption) ?_
      refine C_icmp (pc' := 28) rfl rfl (fun hc => ?_) (fun hc => ?_)
      · refine C_iconst (y := (-1)) rfl (by decide) ?_
        exact C_iret rfl rfl (by first | trivial | exact Or.inl rfl | exact Or.inr rfl | assumption) ⟨rfl, rfl⟩
      · have hlt : s < n := Nat.lt_of_not_le (fun q => hc (nI_le q (by omega)))
        have h40 : s < lnt (xN X) 18 := show s < 40 from by omega
        first | refine C_aload_n rfl rfl ?_ | refine C_aload_nN rfl rfl ?_
        first | refine C_getR (t0 := 8) rfl rfl (by decide) rfl rfl (Or.inr ⟨_, rfl⟩) rfl (by assumption) (by assumption) ?_ | refine C_getN (t0 := 8) rfl rfl (by decide) rfl rfl (Or.inr ⟨_, rfl⟩) rfl (by assumption) (by assumption) ?_
        refine C_iload_n rfl rfl ?_
        refine C_bald hnp rfl rfl rfl (by assumption) rfl (by first | assumption | (show _ < _; omega)) ?_
        try refine C_topi (y := nI _) (by assumption) ?_
        refine C_iload_n rfl rfl ?_
        refine C_icmp (pc' := 22) rfl rfl (fun hc => ?_) (fun hc => ?_)
        · refine C_iinc (lv' := [(2, _), (0, _), (1, _)]) rfl rfl (by exact nI_1 _) rfl ?_
          refine C_goto (pc' := 2) rfl rfl ?_
          exact ih (s + 1) (by omega) (by omega)
        · exact absurd (hx s hlt) hc
  exact lp n 0 (Nat.zero_le _) (Nat.le_refl _)
