/-! ===== the reference: branches that are known, small operations ===== -/
def icN : ClassFile.Cond → Nat → Nat → Prop
  | .eq, x, y => x = y
  | .ne, x, y => ¬ x = y
  | .lt, x, y => x < y
  | .ge, x, y => y ≤ x
  | .gt, x, y => y < x
  | .le, x, y => x ≤ y
theorem ic_iff {c : ClassFile.Cond} {a b : Nat} (ha : a < 2 ^ 31) (hb : b < 2 ^ 31) : icc c (nI a) (nI b) ↔ icN c a b := by
  cases c
  · exact nI_eq ha hb
  · exact not_congr (nI_eq ha hb)
  · exact nI_ltI ha hb
  · exact nI_leI hb ha
  · exact nI_ltI hb ha
  · exact nI_leI ha hb
theorem ic_T {c : ClassFile.Cond} {a b : Nat} (ha : a < 2 ^ 31) (hb : b < 2 ^ 31) (h : icN c a b) : icc c (nI a) (nI b) := (ic_iff ha hb).mpr h
theorem ic_F {c : ClassFile.Cond} {a b : Nat} (ha : a < 2 ^ 31) (hb : b < 2 ^ 31) (h : ¬ icN c a b) : ¬ icc c (nI a) (nI b) := fun q => h ((ic_iff ha hb).mp q)
theorem ic_T0 {c : ClassFile.Cond} {a : Nat} (ha : a < 2 ^ 31) (h : icN c a 0) : icc c (nI a) 0 := nI_0 ▸ (ic_iff ha (by decide)).mpr h
theorem ic_F0 {c : ClassFile.Cond} {a : Nat} (ha : a < 2 ^ 31) (h : ¬ icN c a 0) : ¬ icc c (nI a) 0 := fun q => h ((ic_iff ha (by decide)).mp (nI_0 ▸ q))
def icb : ClassFile.Cond → Int32 → Int32 → Bool
  | .eq, x, y => decide (x = y)
  | .ne, x, y => decide (¬ x = y)
  | .lt, x, y => decide (x < y)
  | .ge, x, y => decide (y ≤ x)
  | .gt, x, y => decide (y < x)
  | .le, x, y => decide (x ≤ y)
theorem icb_iff {c : ClassFile.Cond} {x y : Int32} : icb c x y = true ↔ icc c x y := by
  cases c <;> simp [icb, icc]
theorem icT {c : ClassFile.Cond} {x y : Int32} (h : icb c x y = true) : icc c x y := icb_iff.mp h
theorem icF {c : ClassFile.Cond} {x y : Int32} (h : icb c x y = false) : ¬ icc c x y := fun q => by rw [icb_iff.mpr q] at h; cases h
section
variable {C : Rrel} {t : List (Nat × Instr × Nat)} {oc : Nat} {rt : Option FieldType} {Qr : Option Value → Mem → Prop} {pc : Nat} {lv : Lv} {r : List Value} {M : Mem} {len : Nat}
theorem R_ifT {c : ClassFile.Cond} {f : Int} {x : Int32} {pc' : Nat} (h : t.lookup pc = some (.ifCond c f, len)) (hp : jt pc f = pc') (hc : icc c x 0) (k1 : WR C t oc rt Qr pc' lv r M) : WR C t oc rt Qr pc lv (.int x :: r) M := R_if h hp (fun _ => k1) (fun q => absurd hc q)
theorem R_ifF {c : ClassFile.Cond} {f : Int} {x : Int32} (h : t.lookup pc = some (.ifCond c f, len)) (hc : ¬ icc c x 0) (k1 : WR C t oc rt Qr (pc + 3) lv r M) : WR C t oc rt Qr pc lv (.int x :: r) M := R_if h rfl (fun q => absurd q hc) (fun _ => k1)
theorem R_icT {c : ClassFile.Cond} {f : Int} {x y : Int32} {pc' : Nat} (h : t.lookup pc = some (.if_icmp c f, len)) (hp : jt pc f = pc') (hc : icc c x y) (k1 : WR C t oc rt Qr pc' lv r M) : WR C t oc rt Qr pc lv (.int y :: .int x :: r) M := R_icmp h hp (fun _ => k1) (fun q => absurd hc q)
theorem R_icF {c : ClassFile.Cond} {f : Int} {x y : Int32} (h : t.lookup pc = some (.if_icmp c f, len)) (hc : ¬ icc c x y) (k1 : WR C t oc rt Qr (pc + 3) lv r M) : WR C t oc rt Qr pc lv (.int y :: .int x :: r) M := R_icmp h rfl (fun q => absurd q hc) (fun _ => k1)
end
def welM (M : Mem) (x : Int32) (s : Nat) : Mem := up2 (up2 M 10 0 x) 11 0 (nI (s + 1))
theorem r_put5 {d : Nat} {M : Mem} {k x : Int32} (hp : M 14 0 = nI 1000) : CalR (d + 2) j_X9_put [.ref 0, .int k, .int x] M (some (.int (nI 5))) (up2 M 9 0 (nI 5)) := by
  refine CalR_of (md := md_X9_put) (d := d + 1) rfl (Nat.le_of_ble_eq_true rfl) ?_
  show WR (CalR (d + 1)) t_X9_put 9 (some .int) _ 0 [(0, .ref 0), (1, .int k), (2, .int x)] [] _
  refine R_aload_n rfl rfl ?_
  refine R_getI rfl rfl (Or.inl rfl) ?_
  try refine R_top (y := nI _) (by assumption) ?_
  refine R_sipush (y := nI 1000) rfl (by decide) ?_
  refine R_icF rfl (by first | assumption | exact icF (by decide) | exact ic_F (by omega) (by omega) (by simp only [icN]; omega) | exact ic_F0 (by omega) (by simp only [icN]; omega) | exact icF0 (by decide)) ?_
  refine R_aload_n rfl rfl ?_
  refine R_iconst (y := nI 5) rfl (by decide) ?_
  refine R_virt rfl rfl rfl rfl rfl rfl rfl (Nat.le_of_ble_eq_true rfl) (fun _ q => by cases q) (r_ends) ?_
  try refine R_top (y := nI _) (by assumption) ?_
  exact R_iret rfl rfl (by first | trivial | exact Or.inl rfl | exact Or.inr rfl | assumption) ⟨rfl, rfl⟩
theorem r_put {d : Nat} {M : Mem} {p a s : Nat} {k x : Int32} (hp : M 14 0 = nI p) (hp1 : p < 1000) (ha : M 10 0 = nI a) (hs : M 11 0 = nI s) : CalR (d + 2) j_X9_put [.ref 0, .int k, .int x] M (some (.int 0)) (welM (pushM M p k x) (nI (a + 1)) s) := by
  refine CalR_of (md := md_X9_put) (d := d + 1) rfl (Nat.le_of_ble_eq_true rfl) ?_
  show WR (CalR (d + 1)) t_X9_put 9 (some .int) _ 0 [(0, .ref 0), (1, .int k), (2, .int x)] [] _
  refine R_aload_n rfl rfl ?_
  refine R_getI rfl rfl (Or.inl rfl) ?_
  try refine R_top (y := nI _) (by assumption) ?_
  refine R_sipush (y := nI 1000) rfl (by decide) ?_
  refine R_icT (pc' := 16) rfl rfl (by first | assumption | exact icT (by decide) | exact ic_T (by omega) (by omega) (by simp only [icN]; omega) | exact ic_T0 (by omega) (by simp only [icN]; omega) | exact icT0 (by decide)) ?_
  refine R_aload_n rfl rfl ?_
  refine R_iload_n rfl rfl ?_
  refine R_iload_n rfl rfl ?_
  refine R_virt rfl rfl rfl rfl rfl rfl rfl (Nat.le_of_ble_eq_true rfl) (fun _ q => by cases q) (r_push (by first | assumption | rfl) (by omega)) ?_
  refine R_aload_n rfl rfl ?_
  refine R_aload_n rfl rfl ?_
  refine R_getI rfl rfl (Or.inl rfl) ?_
  try refine R_top (y := nI _) (by assumption) ?_
  refine R_iconst (y := nI 1) rfl (by decide) ?_
  first | refine R_iaddN rfl ?_ | refine R_iadd rfl ?_
  refine R_virt rfl rfl rfl rfl rfl rfl rfl (Nat.le_of_ble_eq_true rfl) (fun _ q => by cases q) (r_well (by assumption)) ?_
  try refine R_top (y := nI _) (by assumption) ?_
  exact R_iret rfl rfl (by first | trivial | exact Or.inl rfl | exact Or.inr rfl | assumption) ⟨rfl, rfl⟩
