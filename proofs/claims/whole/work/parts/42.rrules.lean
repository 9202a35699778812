theorem rN_le80 (k : Nat) : rN.getD k 0 ≤ 80000 := by
  by_cases hk : k < 54
  · have h : (List.range 54).all (fun k => decide (rN.getD k 0 ≤ 80000)) = true := by decide +kernel
    exact of_decide_eq_true (List.all_eq_true.mp h k (List.mem_range.mpr hk))
  · rw [List.getD_eq_getElem?_getD, List.getElem?_eq_none (by show 54 ≤ k; omega)]
    decide
theorem rN_le (k : Nat) : rN.getD k 0 ≤ 2 ^ 31 := Nat.le_trans (rN_le80 k) (by decide)
/-! ===== rules of the reference's engine, without counts ===== -/
def WR (C : Rrel) (t : List (Nat × Instr × Nat)) (oc : Nat) (rt : Option FieldType) (Qr : Option Value → Mem → Prop) (pc : Nat) (lv : Lv) (st : List Value) (M : Mem) : Prop := ∃ n, wpR C t oc rt Qr n pc lv st M
section RR
variable {C : Rrel} {t : List (Nat × Instr × Nat)} {oc : Nat} {rt : Option FieldType} {Qr : Option Value → Mem → Prop} {pc : Nat} {lv : Lv} {st r : List Value} {M : Mem} {len : Nat}
theorem WR_of {q : Instr × Nat} (h : t.lookup pc = some q) {n : Nat} (k : insR C oc rt Qr (wpR C t oc rt Qr n) pc lv st M q.1) : WR C t oc rt Qr pc lv st M := ⟨n + 1, by simp only [wpR, h]; exact k⟩
theorem R_iconst {v : Int} {y : Int32} (h : t.lookup pc = some (.iconst v, len)) (hv : Int32.ofInt v = y) (k : WR C t oc rt Qr (pc + 1) lv (.int y :: st) M) : WR C t oc rt Qr pc lv st M := by
  subst hv
  obtain ⟨n, k⟩ := k
  exact WR_of h k
theorem R_bipush {v : Int} {y : Int32} (h : t.lookup pc = some (.bipush v, len)) (hv : (Int8.ofInt v).toInt32 = y) (k : WR C t oc rt Qr (pc + 2) lv (.int y :: st) M) : WR C t oc rt Qr pc lv st M := by
  subst hv
  obtain ⟨n, k⟩ := k
  exact WR_of h k
theorem R_sipush {v : Int} {y : Int32} (h : t.lookup pc = some (.sipush v, len)) (hv : (Int16.ofInt v).toInt32 = y) (k : WR C t oc rt Qr (pc + 3) lv (.int y :: st) M) : WR C t oc rt Qr pc lv st M := by
  subst hv
  obtain ⟨n, k⟩ := k
  exact WR_of h k
theorem R_lconst {v : Fin 2} (h : t.lookup pc = some (.lconst v, len)) (k : WR C t oc rt Qr (pc + 1) lv (.long (Int64.ofNat v.val) :: st) M) : WR C t oc rt Qr pc lv st M := by
  obtain ⟨n, k⟩ := k
  exact WR_of h k
theorem R_ldc {i ix : Nat} {v : Int32} (h : t.lookup pc = some (.ldc i, len)) (hk : kres oc i = some (v, ix)) (k : WR C t oc rt Qr (pc + 2) lv (.int v :: st) M) : WR C t oc rt Qr pc lv st M := by
  obtain ⟨n, k⟩ := k
  refine WR_of h (n := n) ?_
  simp only [insR, hk]
  exact k
theorem R_ldc2_w {i ix : Nat} {v : Int64} (h : t.lookup pc = some (.ldc2_w i, len)) (hk : jres oc i = some (v, ix)) (k : WR C t oc rt Qr (pc + 3) lv (.long v :: st) M) : WR C t oc rt Qr pc lv st M := by
  obtain ⟨n, k⟩ := k
  refine WR_of h (n := n) ?_
  simp only [insR, hk]
  exact k
theorem R_iload_n {i : Fin 4} {x : Int32} (h : t.lookup pc = some (.iload_n i, len)) (hl : lv.lookup i.val = some (.int x)) (k : WR C t oc rt Qr (pc + 1) lv (.int x :: st) M) : WR C t oc rt Qr pc lv st M := by
  obtain ⟨n, k⟩ := k
  refine WR_of h (n := n) ?_
  simp only [insR, hl]
  exact k
theorem R_iload {i : Nat} {x : Int32} (h : t.lookup pc = some (.iload i, len)) (hl : lv.lookup i = some (.int x)) (k : WR C t oc rt Qr (pc + 2) lv (.int x :: st) M) : WR C t oc rt Qr pc lv st M := by
  obtain ⟨n, k⟩ := k
  refine WR_of h (n := n) ?_
  simp only [insR, hl]
  exact k
theorem R_lload_n {i : Fin 4} {x : Int64} (h : t.lookup pc = some (.lload_n i, len)) (hl : lv.lookup i.val = some (.long x)) (k : WR C t oc rt Qr (pc + 1) lv (.long x :: st) M) : WR C t oc rt Qr pc lv st M := by
  obtain ⟨n, k⟩ := k
  refine WR_of h (n := n) ?_
  simp only [insR, hl]
  exact k
theorem R_lload {i : Nat} {x : Int64} (h : t.lookup pc = some (.lload i, len)) (hl : lv.lookup i = some (.long x)) (k : WR C t oc rt Qr (pc + 2) lv (.long x :: st) M) : WR C t oc rt Qr pc lv st M := by
  obtain ⟨n, k⟩ := k
  refine WR_of h (n := n) ?_
  simp only [insR, hl]
  exact k
theorem R_aload_n {i : Fin 4} {x : Nat} (h : t.lookup pc = some (.aload_n i, len)) (hl : lv.lookup i.val = some (.ref x)) (k : WR C t oc rt Qr (pc + 1) lv (.ref x :: st) M) : WR C t oc rt Qr pc lv st M := by
  obtain ⟨n, k⟩ := k
  refine WR_of h (n := n) ?_
  simp only [insR, hl]
  exact k
theorem R_istore_n {i : Fin 4} {x : Int32} {lv' : Lv} (h : t.lookup pc = some (.istore_n i, len)) (hl : lvs i.val (.int x) lv = lv') (k : WR C t oc rt Qr (pc + 1) lv' r M) : WR C t oc rt Qr pc lv (.int x :: r) M := by
  subst hl
  obtain ⟨n, k⟩ := k
  exact WR_of h k
theorem R_istore {i : Nat} {x : Int32} {lv' : Lv} (h : t.lookup pc = some (.istore i, len)) (hl : lvs i (.int x) lv = lv') (k : WR C t oc rt Qr (pc + 2) lv' r M) : WR C t oc rt Qr pc lv (.int x :: r) M := by
  subst hl
  obtain ⟨n, k⟩ := k
  exact WR_of h k
theorem R_lstore_n {i : Fin 4} {x : Int64} {lv' : Lv} (h : t.lookup pc = some (.lstore_n i, len)) (hl : lvl i.val (.long x) lv = lv') (k : WR C t oc rt Qr (pc + 1) lv' r M) : WR C t oc rt Qr pc lv (.long x :: r) M := by
  subst hl
  obtain ⟨n, k⟩ := k
  exact WR_of h k
theorem R_lstore {i : Nat} {x : Int64} {lv' : Lv} (h : t.lookup pc = some (.lstore i, len)) (hl : lvl i (.long x) lv = lv') (k : WR C t oc rt Qr (pc + 2) lv' r M) : WR C t oc rt Qr pc lv (.long x :: r) M := by
  subst hl
  obtain ⟨n, k⟩ := k
  exact WR_of h k
theorem R_iinc {i : Nat} {v : Int} {x y : Int32} {lv' : Lv} (h : t.lookup pc = some (.iinc i v, len)) (hx : lv.lookup i = some (.int x)) (hy : x + Int32.ofInt v = y) (hl : lvs i (.int y) lv = lv') (k : WR C t oc rt Qr (pc + 3) lv' st M) : WR C t oc rt Qr pc lv st M := by
  subst hy; subst hl
  obtain ⟨n, k⟩ := k
  refine WR_of h (n := n) ?_
  simp only [insR, hx]
  exact k
theorem R_iadd {x y : Int32} (h : t.lookup pc = some (.iadd, len)) (k : WR C t oc rt Qr (pc + 1) lv (.int (x + y) :: r) M) : WR C t oc rt Qr pc lv (.int y :: .int x :: r) M := by
  obtain ⟨n, k⟩ := k
  exact WR_of h k
theorem R_isub {x y : Int32} (h : t.lookup pc = some (.isub, len)) (k : WR C t oc rt Qr (pc + 1) lv (.int (x - y) :: r) M) : WR C t oc rt Qr pc lv (.int y :: .int x :: r) M := by
  obtain ⟨n, k⟩ := k
  exact WR_of h k
theorem R_imul {x y : Int32} (h : t.lookup pc = some (.imul, len)) (k : WR C t oc rt Qr (pc + 1) lv (.int (x * y) :: r) M) : WR C t oc rt Qr pc lv (.int y :: .int x :: r) M := by
  obtain ⟨n, k⟩ := k
  exact WR_of h k
theorem R_ladd {x y : Int64} (h : t.lookup pc = some (.ladd, len)) (k : WR C t oc rt Qr (pc + 1) lv (.long (x + y) :: r) M) : WR C t oc rt Qr pc lv (.long y :: .long x :: r) M := by
  obtain ⟨n, k⟩ := k
  exact WR_of h k
theorem R_lsub {x y : Int64} (h : t.lookup pc = some (.lsub, len)) (k : WR C t oc rt Qr (pc + 1) lv (.long (x - y) :: r) M) : WR C t oc rt Qr pc lv (.long y :: .long x :: r) M := by
  obtain ⟨n, k⟩ := k
  exact WR_of h k
theorem R_lmul {x y : Int64} (h : t.lookup pc = some (.lmul, len)) (k : WR C t oc rt Qr (pc + 1) lv (.long (x * y) :: r) M) : WR C t oc rt Qr pc lv (.long y :: .long x :: r) M := by
  obtain ⟨n, k⟩ := k
  exact WR_of h k
theorem R_ldiv {x y : Int64} (h : t.lookup pc = some (.ldiv, len)) (hy : ¬ y = 0) (k : WR C t oc rt Qr (pc + 1) lv (.long (x / y) :: r) M) : WR C t oc rt Qr pc lv (.long y :: .long x :: r) M := by
  obtain ⟨n, k⟩ := k
  exact WR_of h ⟨hy, k⟩
theorem R_lrem {x y : Int64} (h : t.lookup pc = some (.lrem, len)) (hy : ¬ y = 0) (k : WR C t oc rt Qr (pc + 1) lv (.long (x - x / y * y) :: r) M) : WR C t oc rt Qr pc lv (.long y :: .long x :: r) M := by
  obtain ⟨n, k⟩ := k
  exact WR_of h ⟨hy, k⟩
theorem R_lcmp {x y : Int64} (h : t.lookup pc = some (.lcmp, len)) (k : WR C t oc rt Qr (pc + 1) lv (.int (lg_cmp x y) :: r) M) : WR C t oc rt Qr pc lv (.long y :: .long x :: r) M := by
  obtain ⟨n, k⟩ := k
  exact WR_of h k
theorem R_i2l {x : Int32} (h : t.lookup pc = some (.i2l, len)) (k : WR C t oc rt Qr (pc + 1) lv (.long x.toInt64 :: r) M) : WR C t oc rt Qr pc lv (.int x :: r) M := by
  obtain ⟨n, k⟩ := k
  exact WR_of h k
theorem R_l2i {x : Int64} (h : t.lookup pc = some (.l2i, len)) (k : WR C t oc rt Qr (pc + 1) lv (.int x.toInt32 :: r) M) : WR C t oc rt Qr pc lv (.long x :: r) M := by
  obtain ⟨n, k⟩ := k
  exact WR_of h k
theorem R_dup {x : Nat} (h : t.lookup pc = some (.dup, len)) (k : WR C t oc rt Qr (pc + 1) lv (.ref x :: .ref x :: r) M) : WR C t oc rt Qr pc lv (.ref x :: r) M := by
  obtain ⟨n, k⟩ := k
  exact WR_of h k
theorem R_dup2 {x : Nat} {y : Int32} (h : t.lookup pc = some (.dup2, len)) (k : WR C t oc rt Qr (pc + 1) lv (.int y :: .ref x :: .int y :: .ref x :: r) M) : WR C t oc rt Qr pc lv (.int y :: .ref x :: r) M := by
  obtain ⟨n, k⟩ := k
  exact WR_of h k
theorem R_goto {f : Int} {pc' : Nat} (h : t.lookup pc = some (.goto f, len)) (hp : jt pc f = pc') (k : WR C t oc rt Qr pc' lv st M) : WR C t oc rt Qr pc lv st M := by
  subst hp
  obtain ⟨n, k⟩ := k
  exact WR_of h k
theorem R_if {c : ClassFile.Cond} {f : Int} {x : Int32} {pc' : Nat} (h : t.lookup pc = some (.ifCond c f, len)) (hp : jt pc f = pc') (k1 : icc c x 0 → WR C t oc rt Qr pc' lv r M) (k2 : ¬ icc c x 0 → WR C t oc rt Qr (pc + 3) lv r M) : WR C t oc rt Qr pc lv (.int x :: r) M := by
  subst hp
  by_cases q : icc c x 0
  · obtain ⟨n, k⟩ := k1 q
    exact WR_of h (n := n) ⟨fun _ => k, fun q' => absurd q q'⟩
  · obtain ⟨n, k⟩ := k2 q
    exact WR_of h (n := n) ⟨fun q' => absurd q' q, fun _ => k⟩
theorem R_icmp {c : ClassFile.Cond} {f : Int} {x y : Int32} {pc' : Nat} (h : t.lookup pc = some (.if_icmp c f, len)) (hp : jt pc f = pc') (k1 : icc c x y → WR C t oc rt Qr pc' lv r M) (k2 : ¬ icc c x y → WR C t oc rt Qr (pc + 3) lv r M) : WR C t oc rt Qr pc lv (.int y :: .int x :: r) M := by
  subst hp
  by_cases q : icc c x y
  · obtain ⟨n, k⟩ := k1 q
    exact WR_of h (n := n) ⟨fun _ => k, fun q' => absurd q q'⟩
  · obtain ⟨n, k⟩ := k2 q
    exact WR_of h (n := n) ⟨fun q' => absurd q' q, fun _ => k⟩
theorem R_table {df lo hi : Int} {offs : Array Int} {x : Int32} {pc' : Nat} (h : t.lookup pc = some (.tableswitch df lo hi offs, len)) (hp : jt pc (swt df lo hi offs x.toInt) = pc') (k : WR C t oc rt Qr pc' lv r M) : WR C t oc rt Qr pc lv (.int x :: r) M := by
  subst hp
  obtain ⟨n, k⟩ := k
  exact WR_of h k
theorem R_getI {i k ix : Nat} (h : t.lookup pc = some (.getfield i, len)) (hf : fres oc i = some (9, k, ix)) (hk : rK.getD k 9 = 0 ∨ rK.getD k 9 = 1) (kk : WR C t oc rt Qr (pc + 3) lv (.int (M k 0) :: r) M) : WR C t oc rt Qr pc lv (.ref 0 :: r) M := by
  obtain ⟨n, kk⟩ := kk
  refine WR_of h (n := n) ?_
  rcases hk with hk | hk <;> (simp only [insR, hf, hk]; exact kk)
theorem R_getA {i k ix : Nat} (h : t.lookup pc = some (.getfield i, len)) (hf : fres oc i = some (9, k, ix)) (hk : rK.getD k 9 = 2 ∨ rK.getD k 9 = 3) (kk : WR C t oc rt Qr (pc + 3) lv (.ref k :: r) M) : WR C t oc rt Qr pc lv (.ref 0 :: r) M := by
  obtain ⟨n, kk⟩ := kk
  refine WR_of h (n := n) ?_
  rcases hk with hk | hk <;> (simp only [insR, hf, hk]; exact kk)
theorem R_put {i k ix : Nat} {x : Int32} (h : t.lookup pc = some (.putfield i, len)) (hf : fres oc i = some (9, k, ix)) (hk : rK.getD k 9 = 0) (kk : WR C t oc rt Qr (pc + 3) lv r (up2 M k 0 x)) : WR C t oc rt Qr pc lv (.int x :: .ref 0 :: r) M := by
  obtain ⟨n, kk⟩ := kk
  refine WR_of h (n := n) ?_
  simp only [insR, hf, hk]
  exact kk
theorem R_putZ {i k ix : Nat} {x : Int32} (h : t.lookup pc = some (.putfield i, len)) (hf : fres oc i = some (9, k, ix)) (hk : rK.getD k 9 = 1) (hx : x = 0 ∨ x = 1) (kk : WR C t oc rt Qr (pc + 3) lv r (up2 M k 0 x)) : WR C t oc rt Qr pc lv (.int x :: .ref 0 :: r) M := by
  obtain ⟨n, kk⟩ := kk
  refine WR_of h (n := n) ?_
  simp only [insR, hf, hk]
  exact ⟨hx, kk⟩
theorem R_iald {k : Nat} {i : Int32} {a : Nat} (h : t.lookup pc = some (.iaload, len)) (hk : rK.getD k 9 = 2) (hi : i = nI a) (ha : a < rN.getD k 0) (kk : WR C t oc rt Qr (pc + 1) lv (.int (M k a) :: r) M) : WR C t oc rt Qr pc lv (.int i :: .ref k :: r) M := by
  subst hi
  have h31 : a < 2 ^ 31 := Nat.lt_of_lt_of_le ha (rN_le k)
  obtain ⟨n, kk⟩ := kk
  refine WR_of h (n := n) ?_
  simp only [insR, hk]
  exact ⟨vp_in_nI ha (Nat.lt_of_le_of_lt (rN_le80 k) (by decide)), by rw [nI_clamp h31]; exact kk⟩
theorem R_bald {k : Nat} {i : Int32} {a : Nat} (h : t.lookup pc = some (.baload, len)) (hk : rK.getD k 9 = 3) (hi : i = nI a) (ha : a < rN.getD k 0) (kk : WR C t oc rt Qr (pc + 1) lv (.int (M k a) :: r) M) : WR C t oc rt Qr pc lv (.int i :: .ref k :: r) M := by
  subst hi
  have h31 : a < 2 ^ 31 := Nat.lt_of_lt_of_le ha (rN_le k)
  obtain ⟨n, kk⟩ := kk
  refine WR_of h (n := n) ?_
  simp only [insR, hk]
  exact ⟨vp_in_nI ha (Nat.lt_of_le_of_lt (rN_le80 k) (by decide)), by rw [nI_clamp h31]; exact kk⟩
theorem R_iast {k : Nat} {x i : Int32} {a : Nat} (h : t.lookup pc = some (.iastore, len)) (hk : rK.getD k 9 = 2) (hi : i = nI a) (ha : a < rN.getD k 0) (kk : WR C t oc rt Qr (pc + 1) lv r (up2 M k a x)) : WR C t oc rt Qr pc lv (.int x :: .int i :: .ref k :: r) M := by
  subst hi
  have h31 : a < 2 ^ 31 := Nat.lt_of_lt_of_le ha (rN_le k)
  obtain ⟨n, kk⟩ := kk
  refine WR_of h (n := n) ?_
  simp only [insR, hk]
  exact ⟨vp_in_nI ha (Nat.lt_of_le_of_lt (rN_le80 k) (by decide)), by rw [nI_clamp h31]; exact kk⟩
theorem R_bast {k : Nat} {x i : Int32} {a : Nat} (h : t.lookup pc = some (.bastore, len)) (hk : rK.getD k 9 = 3) (hi : i = nI a) (ha : a < rN.getD k 0) (hx : x = 0 ∨ x = 1) (kk : WR C t oc rt Qr (pc + 1) lv r (up2 M k a x)) : WR C t oc rt Qr pc lv (.int x :: .int i :: .ref k :: r) M := by
  subst hi
  have h31 : a < 2 ^ 31 := Nat.lt_of_lt_of_le ha (rN_le k)
  obtain ⟨n, kk⟩ := kk
  refine WR_of h (n := n) ?_
  simp only [insR, hk]
  exact ⟨vp_in_nI ha (Nat.lt_of_le_of_lt (rN_le80 k) (by decide)), hx, by rw [nI_clamp h31]; exact kk⟩
theorem R_iret {x : Int32} {ty : FieldType} (h : t.lookup pc = some (.ireturn, len)) (hr : rt = some ty) (hf : fitV ty (.int x)) (k : Qr (some (.int x)) M) : WR C t oc rt Qr pc lv [.int x] M := by
  subst hr
  exact WR_of h (n := 0) ⟨hf, k⟩
theorem R_ret (h : t.lookup pc = some (.return_, len)) (hr : rt = none) (k : Qr none M) : WR C t oc rt Qr pc lv [] M := by
  subst hr
  exact WR_of h (n := 0) k
theorem R_virt {i j ix : Nat} {md : MD} {v : Option Value} {M1 : Mem} {av rest : List Value} (h : t.lookup pc = some (.invokevirtual i, len)) (hm : mres oc i = some (0, j, ix)) (hp : prog[j]? = some md) (h9 : md.2.2.2.2.2.1 = 9) (h0 : st[md.2.2.2.2.1]? = some (.ref 0)) (hav : .ref 0 :: (st.take md.2.2.2.2.1).reverse = av) (hrest : st.drop (md.2.2.2.2.1 + 1) = rest) (hw : wgt rest ≤ 8) (hv : ∀ a, v ≠ some (.ref a)) (hc : C j av M v M1) (k : WR C t oc rt Qr (pc + 3) lv (v.toList ++ rest) M1) : WR C t oc rt Qr pc lv st M := by
  subst hav; subst hrest
  obtain ⟨n, k⟩ := k
  refine WR_of h (n := n) ?_
  simp only [insR, hm, hp]
  exact ⟨h9, h0, hw, v, M1, hv, hc, k⟩
theorem R_stat {i j ix : Nat} {md : MD} {v : Option Value} {M1 : Mem} {av rest : List Value} (h : t.lookup pc = some (.invokestatic i, len)) (hm : mres oc i = some (1, j, ix)) (hp : prog[j]? = some md) (hln : md.2.2.2.2.1 ≤ st.length) (hav : (st.take md.2.2.2.2.1).reverse = av) (hrest : st.drop md.2.2.2.2.1 = rest) (hw : wgt rest ≤ 8) (hv : ∀ a, v ≠ some (.ref a)) (hc : C j av M v M1) (k : WR C t oc rt Qr (pc + 3) lv (v.toList ++ rest) M1) : WR C t oc rt Qr pc lv st M := by
  subst hav; subst hrest
  obtain ⟨n, k⟩ := k
  refine WR_of h (n := n) ?_
  simp only [insR, hm, hp]
  exact ⟨hln, hw, v, M1, hv, hc, k⟩
theorem R_iaddN {a b : Nat} (h : t.lookup pc = some (.iadd, len)) (k : WR C t oc rt Qr (pc + 1) lv (.int (nI (a + b)) :: r) M) : WR C t oc rt Qr pc lv (.int (nI b) :: .int (nI a) :: r) M := R_iadd h (by rw [nI_add]; exact k)
theorem R_imulN {a b : Nat} (h : t.lookup pc = some (.imul, len)) (k : WR C t oc rt Qr (pc + 1) lv (.int (nI (a * b)) :: r) M) : WR C t oc rt Qr pc lv (.int (nI b) :: .int (nI a) :: r) M := R_imul h (by rw [pk_mul]; exact k)
theorem R_isubN {a b : Nat} (h : t.lookup pc = some (.isub, len)) (hb : b ≤ a) (k : WR C t oc rt Qr (pc + 1) lv (.int (nI (a - b)) :: r) M) : WR C t oc rt Qr pc lv (.int (nI b) :: .int (nI a) :: r) M := R_isub h (by rw [pk_sub hb]; exact k)
theorem R_top {x y : Int32} (h : x = y) (k : WR C t oc rt Qr pc lv (.int y :: r) M) : WR C t oc rt Qr pc lv (.int x :: r) M := h ▸ k
end RR
theorem CalR_of {d j : Nat} {md : MD} {av : List Value} {M M1 : Mem} {v : Option Value} (hp : prog[j]? = some md) (hl : (lg_sl av).length ≤ md.2.2.1) (h : WR (CalR d) md.2.2.2.2.2.2.2 md.2.2.2.2.2.1 md.2.2.2.1 (fun v' M' => v' = v ∧ M' = M1) 0 (lv_args 0 av) [] M) : CalR (d + 1) j av M v M1 := by
  simp only [CalR, hp]
  exact ⟨hl, h⟩
