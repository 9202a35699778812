/-! ===== rules for the class's methods, over its objects ===== -/
/-- z, b, L, xs of the engine; np, i0, w0, G of Rl -/
abbrev Ev : Type := Nat × Nat × Nat × (Nat → Int32) × Nat × Nat × Nat × (Nat → Option va_E)
def RX (X : Ev) (S : CS) (σ : Hp) : Prop := Rl X.1 X.2.2.2.2.1 X.2.2.2.2.2.1 X.2.2.2.2.2.2.1 X.2.2.2.2.2.2.2 S σ
abbrev xZ (X : Ev) : Nat := X.1
abbrev xN (X : Ev) : Nat := X.2.2.2.2.1
abbrev CalX (X : Ev) : Nat → Crel := Cal X.1 X.2.1 X.2.2.1 X.2.2.2.1
abbrev wpX (X : Ev) (d : Nat) (t : List (Nat × Instr × Nat)) (oc : Nat) (rt : Option FieldType) (Q : Option Value → Hp → Prop) : Nat → Nat → Lv → List Value → Hp → Prop := wp X.1 X.2.1 X.2.2.1 X.2.2.2.1 (CalX X d) t oc rt Q
def QS (X : Ev) (Qr : Option Value → CS → Prop) : Option Value → Hp → Prop := fun v σ => ∃ S, RX X S σ ∧ Qr v S
def WC (X : Ev) (d : Nat) (t : List (Nat × Instr × Nat)) (oc : Nat) (rt : Option FieldType) (Qr : Option Value → CS → Prop) (pc : Nat) (lv : Lv) (st : List Value) (S : CS) : Prop := ∀ σ, RX X S σ → ∃ n, wpX X d t oc rt (QS X Qr) n pc lv st σ
def CalC (X : Ev) (d j : Nat) (av : List Value) (S : CS) (Qc : Option Value → CS → Prop) : Prop := ∀ σ, RX X S σ → ∃ v σ1 S', CalX X d j av σ v σ1 ∧ RX X S' σ1 ∧ Qc v S'
section CR
variable {X : Ev} {d : Nat} {t : List (Nat × Instr × Nat)} {oc : Nat} {rt : Option FieldType} {Qr : Option Value → CS → Prop} {pc : Nat} {lv : Lv} {st r : List Value} {S : CS} {len : Nat}
theorem wx_of {Q : Option Value → Hp → Prop} {σ : Hp} {q : Instr × Nat} (h : t.lookup pc = some q) {n : Nat} (k : ins X.1 X.2.1 X.2.2.1 X.2.2.2.1 (CalX X d) oc rt Q (wpX X d t oc rt Q n) pc lv st σ q.1) : ∃ n, wpX X d t oc rt Q n pc lv st σ := ⟨n + 1, by simp only [wpX, wp, h]; exact k⟩
theorem C_iconst {v : Int} {y : Int32} (h : t.lookup pc = some (.iconst v, len)) (hv : Int32.ofInt v = y) (k : WC X d t oc rt Qr (pc + 1) lv (.int y :: st) S) : WC X d t oc rt Qr pc lv st S := by
  subst hv
  intro σ hσ
  obtain ⟨n, k⟩ := k σ hσ
  exact wx_of h k
theorem C_bipush {v : Int} {y : Int32} (h : t.lookup pc = some (.bipush v, len)) (hv : (Int8.ofInt v).toInt32 = y) (k : WC X d t oc rt Qr (pc + 2) lv (.int y :: st) S) : WC X d t oc rt Qr pc lv st S := by
  subst hv
  intro σ hσ
  obtain ⟨n, k⟩ := k σ hσ
  exact wx_of h k
theorem C_sipush {v : Int} {y : Int32} (h : t.lookup pc = some (.sipush v, len)) (hv : (Int16.ofInt v).toInt32 = y) (k : WC X d t oc rt Qr (pc + 3) lv (.int y :: st) S) : WC X d t oc rt Qr pc lv st S := by
  subst hv
  intro σ hσ
  obtain ⟨n, k⟩ := k σ hσ
  exact wx_of h k
theorem C_lconst {v : Fin 2} {y : Int64} (h : t.lookup pc = some (.lconst v, len)) (hv : Int64.ofNat v.val = y) (k : WC X d t oc rt Qr (pc + 1) lv (.long y :: st) S) : WC X d t oc rt Qr pc lv st S := by
  subst hv
  intro σ hσ
  obtain ⟨n, k⟩ := k σ hσ
  exact wx_of h k
theorem C_null  (h : t.lookup pc = some (.aconst_null, len)) (k : WC X d t oc rt Qr (pc + 1) lv (.null :: st) S) : WC X d t oc rt Qr pc lv st S := by
  intro σ hσ
  obtain ⟨n, k⟩ := k σ hσ
  exact wx_of h k
theorem C_ldc {i ix : Nat} {v : Int32} (h : t.lookup pc = some (.ldc i, len)) (hk : kres oc i = some (v, ix)) (k : WC X d t oc rt Qr (pc + 2) lv (.int v :: st) S) : WC X d t oc rt Qr pc lv st S := by
  intro σ hσ
  obtain ⟨n, k⟩ := k σ hσ
  refine wx_of h (n := n) ?_
  simp only [ins, hk]
  exact k
theorem C_ldc2_w {i ix : Nat} {v : Int64} (h : t.lookup pc = some (.ldc2_w i, len)) (hk : jres oc i = some (v, ix)) (k : WC X d t oc rt Qr (pc + 3) lv (.long v :: st) S) : WC X d t oc rt Qr pc lv st S := by
  intro σ hσ
  obtain ⟨n, k⟩ := k σ hσ
  refine wx_of h (n := n) ?_
  simp only [ins, hk]
  exact k
theorem C_iload_n {i : Fin 4} {x : Int32} (h : t.lookup pc = some (.iload_n i, len)) (hl : lv.lookup i.val = some (.int x)) (k : WC X d t oc rt Qr (pc + 1) lv (.int x :: st) S) : WC X d t oc rt Qr pc lv st S := by
  intro σ hσ
  obtain ⟨n, k⟩ := k σ hσ
  refine wx_of h (n := n) ?_
  simp only [ins, hl]
  exact k
theorem C_iload {i : Nat} {x : Int32} (h : t.lookup pc = some (.iload i, len)) (hl : lv.lookup i = some (.int x)) (k : WC X d t oc rt Qr (pc + 2) lv (.int x :: st) S) : WC X d t oc rt Qr pc lv st S := by
  intro σ hσ
  obtain ⟨n, k⟩ := k σ hσ
  refine wx_of h (n := n) ?_
  simp only [ins, hl]
  exact k
theorem C_istore_n {i : Fin 4} {x : Int32} {lv' : Lv} (h : t.lookup pc = some (.istore_n i, len)) (hl : lvs i.val (.int x) lv = lv') (k : WC X d t oc rt Qr (pc + 1) lv' r S) : WC X d t oc rt Qr pc lv (.int x :: r) S := by
  subst hl
  intro σ hσ
  obtain ⟨n, k⟩ := k σ hσ
  exact wx_of h k
theorem C_istore {i : Nat} {x : Int32} {lv' : Lv} (h : t.lookup pc = some (.istore i, len)) (hl : lvs i (.int x) lv = lv') (k : WC X d t oc rt Qr (pc + 2) lv' r S) : WC X d t oc rt Qr pc lv (.int x :: r) S := by
  subst hl
  intro σ hσ
  obtain ⟨n, k⟩ := k σ hσ
  exact wx_of h k
theorem C_lload_n {i : Fin 4} {x : Int64} (h : t.lookup pc = some (.lload_n i, len)) (hl : lv.lookup i.val = some (.long x)) (k : WC X d t oc rt Qr (pc + 1) lv (.long x :: st) S) : WC X d t oc rt Qr pc lv st S := by
  intro σ hσ
  obtain ⟨n, k⟩ := k σ hσ
  refine wx_of h (n := n) ?_
  simp only [ins, hl]
  exact k
theorem C_lload {i : Nat} {x : Int64} (h : t.lookup pc = some (.lload i, len)) (hl : lv.lookup i = some (.long x)) (k : WC X d t oc rt Qr (pc + 2) lv (.long x :: st) S) : WC X d t oc rt Qr pc lv st S := by
  intro σ hσ
  obtain ⟨n, k⟩ := k σ hσ
  refine wx_of h (n := n) ?_
  simp only [ins, hl]
  exact k
theorem C_lstore_n {i : Fin 4} {x : Int64} {lv' : Lv} (h : t.lookup pc = some (.lstore_n i, len)) (hl : lvl i.val (.long x) lv = lv') (k : WC X d t oc rt Qr (pc + 1) lv' r S) : WC X d t oc rt Qr pc lv (.long x :: r) S := by
  subst hl
  intro σ hσ
  obtain ⟨n, k⟩ := k σ hσ
  exact wx_of h k
theorem C_lstore {i : Nat} {x : Int64} {lv' : Lv} (h : t.lookup pc = some (.lstore i, len)) (hl : lvl i (.long x) lv = lv') (k : WC X d t oc rt Qr (pc + 2) lv' r S) : WC X d t oc rt Qr pc lv (.long x :: r) S := by
  subst hl
  intro σ hσ
  obtain ⟨n, k⟩ := k σ hσ
  exact wx_of h k
theorem C_aload_n {i : Fin 4} {x : Nat} (h : t.lookup pc = some (.aload_n i, len)) (hl : lv.lookup i.val = some (.ref x)) (k : WC X d t oc rt Qr (pc + 1) lv (.ref x :: st) S) : WC X d t oc rt Qr pc lv st S := by
  intro σ hσ
  obtain ⟨n, k⟩ := k σ hσ
  refine wx_of h (n := n) ?_
  simp only [ins, hl]
  exact k
theorem C_aload {i : Nat} {x : Nat} (h : t.lookup pc = some (.aload i, len)) (hl : lv.lookup i = some (.ref x)) (k : WC X d t oc rt Qr (pc + 2) lv (.ref x :: st) S) : WC X d t oc rt Qr pc lv st S := by
  intro σ hσ
  obtain ⟨n, k⟩ := k σ hσ
  refine wx_of h (n := n) ?_
  simp only [ins, hl]
  exact k
theorem C_astore_n {i : Fin 4} {x : Nat} {lv' : Lv} (h : t.lookup pc = some (.astore_n i, len)) (hl : lvs i.val (.ref x) lv = lv') (k : WC X d t oc rt Qr (pc + 1) lv' r S) : WC X d t oc rt Qr pc lv (.ref x :: r) S := by
  subst hl
  intro σ hσ
  obtain ⟨n, k⟩ := k σ hσ
  exact wx_of h k
theorem C_astore {i : Nat} {x : Nat} {lv' : Lv} (h : t.lookup pc = some (.astore i, len)) (hl : lvs i (.ref x) lv = lv') (k : WC X d t oc rt Qr (pc + 2) lv' r S) : WC X d t oc rt Qr pc lv (.ref x :: r) S := by
  subst hl
  intro σ hσ
  obtain ⟨n, k⟩ := k σ hσ
  exact wx_of h k
theorem C_aload_nN {i : Fin 4} (h : t.lookup pc = some (.aload_n i, len)) (hl : lv.lookup i.val = some .null) (k : WC X d t oc rt Qr (pc + 1) lv (.null :: st) S) : WC X d t oc rt Qr pc lv st S := by
  intro σ hσ
  obtain ⟨n, k⟩ := k σ hσ
  refine wx_of h (n := n) ?_
  simp only [ins, hl]
  exact k
theorem C_aloadN {i : Nat} (h : t.lookup pc = some (.aload i, len)) (hl : lv.lookup i = some .null) (k : WC X d t oc rt Qr (pc + 2) lv (.null :: st) S) : WC X d t oc rt Qr pc lv st S := by
  intro σ hσ
  obtain ⟨n, k⟩ := k σ hσ
  refine wx_of h (n := n) ?_
  simp only [ins, hl]
  exact k
theorem C_astore_nN {i : Fin 4} {lv' : Lv} (h : t.lookup pc = some (.astore_n i, len)) (hl : lvs i.val .null lv = lv') (k : WC X d t oc rt Qr (pc + 1) lv' r S) : WC X d t oc rt Qr pc lv (.null :: r) S := by
  subst hl
  intro σ hσ
  obtain ⟨n, k⟩ := k σ hσ
  exact wx_of h k
theorem C_astoreN {i : Nat} {lv' : Lv} (h : t.lookup pc = some (.astore i, len)) (hl : lvs i .null lv = lv') (k : WC X d t oc rt Qr (pc + 2) lv' r S) : WC X d t oc rt Qr pc lv (.null :: r) S := by
  subst hl
  intro σ hσ
  obtain ⟨n, k⟩ := k σ hσ
  exact wx_of h k
theorem C_iinc {i : Nat} {v : Int} {x y : Int32} {lv' : Lv} (h : t.lookup pc = some (.iinc i v, len)) (hx : lv.lookup i = some (.int x)) (hy : x + Int32.ofInt v = y) (hl : lvs i (.int y) lv = lv') (k : WC X d t oc rt Qr (pc + 3) lv' st S) : WC X d t oc rt Qr pc lv st S := by
  subst hy; subst hl
  intro σ hσ
  obtain ⟨n, k⟩ := k σ hσ
  refine wx_of h (n := n) ?_
  simp only [ins, hx]
  exact k
theorem C_iadd {x y : Int32} (h : t.lookup pc = some (.iadd, len)) (k : WC X d t oc rt Qr (pc + 1) lv (.int (x + y) :: r) S) : WC X d t oc rt Qr pc lv (.int y :: .int x :: r) S := by
  intro σ hσ
  obtain ⟨n, k⟩ := k σ hσ
  exact wx_of h k
theorem C_isub {x y : Int32} (h : t.lookup pc = some (.isub, len)) (k : WC X d t oc rt Qr (pc + 1) lv (.int (x - y) :: r) S) : WC X d t oc rt Qr pc lv (.int y :: .int x :: r) S := by
  intro σ hσ
  obtain ⟨n, k⟩ := k σ hσ
  exact wx_of h k
theorem C_imul {x y : Int32} (h : t.lookup pc = some (.imul, len)) (k : WC X d t oc rt Qr (pc + 1) lv (.int (x * y) :: r) S) : WC X d t oc rt Qr pc lv (.int y :: .int x :: r) S := by
  intro σ hσ
  obtain ⟨n, k⟩ := k σ hσ
  exact wx_of h k
theorem C_iand {x y : Int32} (h : t.lookup pc = some (.iand, len)) (k : WC X d t oc rt Qr (pc + 1) lv (.int (x &&& y) :: r) S) : WC X d t oc rt Qr pc lv (.int y :: .int x :: r) S := by
  intro σ hσ
  obtain ⟨n, k⟩ := k σ hσ
  exact wx_of h k
theorem C_ishr {x y : Int32} (h : t.lookup pc = some (.ishr, len)) (k : WC X d t oc rt Qr (pc + 1) lv (.int (x >>> (y &&& 31)) :: r) S) : WC X d t oc rt Qr pc lv (.int y :: .int x :: r) S := by
  intro σ hσ
  obtain ⟨n, k⟩ := k σ hσ
  exact wx_of h k
theorem C_idiv {x y : Int32} (h : t.lookup pc = some (.idiv, len)) (hy : ¬ y = 0) (k : WC X d t oc rt Qr (pc + 1) lv (.int (x / y) :: r) S) : WC X d t oc rt Qr pc lv (.int y :: .int x :: r) S := by
  intro σ hσ
  obtain ⟨n, k⟩ := k σ hσ
  exact wx_of h (n := n) ⟨hy, k⟩
theorem C_ineg {x : Int32} (h : t.lookup pc = some (.ineg, len)) (k : WC X d t oc rt Qr (pc + 1) lv (.int (-x) :: r) S) : WC X d t oc rt Qr pc lv (.int x :: r) S := by
  intro σ hσ
  obtain ⟨n, k⟩ := k σ hσ
  exact wx_of h k
theorem C_ladd {x y : Int64} (h : t.lookup pc = some (.ladd, len)) (k : WC X d t oc rt Qr (pc + 1) lv (.long (x + y) :: r) S) : WC X d t oc rt Qr pc lv (.long y :: .long x :: r) S := by
  intro σ hσ
  obtain ⟨n, k⟩ := k σ hσ
  exact wx_of h k
theorem C_lsub {x y : Int64} (h : t.lookup pc = some (.lsub, len)) (k : WC X d t oc rt Qr (pc + 1) lv (.long (x - y) :: r) S) : WC X d t oc rt Qr pc lv (.long y :: .long x :: r) S := by
  intro σ hσ
  obtain ⟨n, k⟩ := k σ hσ
  exact wx_of h k
theorem C_lmul {x y : Int64} (h : t.lookup pc = some (.lmul, len)) (k : WC X d t oc rt Qr (pc + 1) lv (.long (x * y) :: r) S) : WC X d t oc rt Qr pc lv (.long y :: .long x :: r) S := by
  intro σ hσ
  obtain ⟨n, k⟩ := k σ hσ
  exact wx_of h k
theorem C_land {x y : Int64} (h : t.lookup pc = some (.land, len)) (k : WC X d t oc rt Qr (pc + 1) lv (.long (x &&& y) :: r) S) : WC X d t oc rt Qr pc lv (.long y :: .long x :: r) S := by
  intro σ hσ
  obtain ⟨n, k⟩ := k σ hσ
  exact wx_of h k
theorem C_lor {x y : Int64} (h : t.lookup pc = some (.lor, len)) (k : WC X d t oc rt Qr (pc + 1) lv (.long (x ||| y) :: r) S) : WC X d t oc rt Qr pc lv (.long y :: .long x :: r) S := by
  intro σ hσ
  obtain ⟨n, k⟩ := k σ hσ
  exact wx_of h k
theorem C_ldiv {x y : Int64} (h : t.lookup pc = some (.ldiv, len)) (hy : ¬ y = 0) (k : WC X d t oc rt Qr (pc + 1) lv (.long (x / y) :: r) S) : WC X d t oc rt Qr pc lv (.long y :: .long x :: r) S := by
  intro σ hσ
  obtain ⟨n, k⟩ := k σ hσ
  exact wx_of h (n := n) ⟨hy, k⟩
theorem C_lrem {x y : Int64} (h : t.lookup pc = some (.lrem, len)) (hy : ¬ y = 0) (k : WC X d t oc rt Qr (pc + 1) lv (.long (x - x / y * y) :: r) S) : WC X d t oc rt Qr pc lv (.long y :: .long x :: r) S := by
  intro σ hσ
  obtain ⟨n, k⟩ := k σ hσ
  exact wx_of h (n := n) ⟨hy, k⟩
theorem C_lushr {x v : Int64} {y : Int32} (h : t.lookup pc = some (.lushr, len)) (hv : (x.toUInt64 >>> (y.toInt64.toUInt64 &&& Int64.toUInt64 63)).toInt64 = v) (k : WC X d t oc rt Qr (pc + 1) lv (.long v :: r) S) : WC X d t oc rt Qr pc lv (.int y :: .long x :: r) S := by
  subst hv
  intro σ hσ
  obtain ⟨n, k⟩ := k σ hσ
  exact wx_of h k
theorem C_lshl {x v : Int64} {y : Int32} (h : t.lookup pc = some (.lshl, len)) (hv : x <<< (y.toInt64 &&& 63) = v) (k : WC X d t oc rt Qr (pc + 1) lv (.long v :: r) S) : WC X d t oc rt Qr pc lv (.int y :: .long x :: r) S := by
  subst hv
  intro σ hσ
  obtain ⟨n, k⟩ := k σ hσ
  exact wx_of h k
theorem C_lcmp {x y : Int64} (h : t.lookup pc = some (.lcmp, len)) (k : WC X d t oc rt Qr (pc + 1) lv (.int (lg_cmp x y) :: r) S) : WC X d t oc rt Qr pc lv (.long y :: .long x :: r) S := by
  intro σ hσ
  obtain ⟨n, k⟩ := k σ hσ
  exact wx_of h k
theorem C_i2l {x : Int32} (h : t.lookup pc = some (.i2l, len)) (k : WC X d t oc rt Qr (pc + 1) lv (.long x.toInt64 :: r) S) : WC X d t oc rt Qr pc lv (.int x :: r) S := by
  intro σ hσ
  obtain ⟨n, k⟩ := k σ hσ
  exact wx_of h k
theorem C_l2i {x : Int64} (h : t.lookup pc = some (.l2i, len)) (k : WC X d t oc rt Qr (pc + 1) lv (.int x.toInt32 :: r) S) : WC X d t oc rt Qr pc lv (.long x :: r) S := by
  intro σ hσ
  obtain ⟨n, k⟩ := k σ hσ
  exact wx_of h k
theorem C_i2b {x : Int32} (h : t.lookup pc = some (.i2b, len)) (k : WC X d t oc rt Qr (pc + 1) lv (.int x.toInt8.toInt32 :: r) S) : WC X d t oc rt Qr pc lv (.int x :: r) S := by
  intro σ hσ
  obtain ⟨n, k⟩ := k σ hσ
  exact wx_of h k
theorem C_dup {v : Value} (h : t.lookup pc = some (.dup, len)) (hv : v.category = 1) (k : WC X d t oc rt Qr (pc + 1) lv (v :: v :: r) S) : WC X d t oc rt Qr pc lv (v :: r) S := by
  intro σ hσ
  obtain ⟨n, k⟩ := k σ hσ
  exact wx_of h (n := n) ⟨hv, k⟩
theorem C_dup2 {v w : Value} (h : t.lookup pc = some (.dup2, len)) (hv : v.category = 1) (hw : w.category = 1) (k : WC X d t oc rt Qr (pc + 1) lv (v :: w :: v :: w :: r) S) : WC X d t oc rt Qr pc lv (v :: w :: r) S := by
  intro σ hσ
  obtain ⟨n, k⟩ := k σ hσ
  exact wx_of h (n := n) ⟨hv, hw, k⟩
theorem C_pop {v : Value} (h : t.lookup pc = some (.pop, len)) (hv : v.category = 1) (k : WC X d t oc rt Qr (pc + 1) lv r S) : WC X d t oc rt Qr pc lv (v :: r) S := by
  intro σ hσ
  obtain ⟨n, k⟩ := k σ hσ
  exact wx_of h (n := n) ⟨hv, k⟩
theorem C_goto {f : Int} {pc' : Nat} (h : t.lookup pc = some (.goto f, len)) (hp : jt pc f = pc') (k : WC X d t oc rt Qr pc' lv st S) : WC X d t oc rt Qr pc lv st S := by
  subst hp
  intro σ hσ
  obtain ⟨n, k⟩ := k σ hσ
  exact wx_of h k
theorem C_if {c : ClassFile.Cond} {f : Int} {x : Int32} {pc' : Nat} (h : t.lookup pc = some (.ifCond c f, len)) (hp : jt pc f = pc') (k1 : icc c x 0 → WC X d t oc rt Qr pc' lv r S) (k2 : ¬ icc c x 0 → WC X d t oc rt Qr (pc + 3) lv r S) : WC X d t oc rt Qr pc lv (.int x :: r) S := by
  subst hp
  intro σ hσ
  by_cases q : icc c x 0
  · obtain ⟨n, k⟩ := k1 q σ hσ
    exact wx_of h (n := n) ⟨fun _ => k, fun q' => absurd q q'⟩
  · obtain ⟨n, k⟩ := k2 q σ hσ
    exact wx_of h (n := n) ⟨fun q' => absurd q' q, fun _ => k⟩
theorem C_icmp {c : ClassFile.Cond} {f : Int} {x y : Int32} {pc' : Nat} (h : t.lookup pc = some (.if_icmp c f, len)) (hp : jt pc f = pc') (k1 : icc c x y → WC X d t oc rt Qr pc' lv r S) (k2 : ¬ icc c x y → WC X d t oc rt Qr (pc + 3) lv r S) : WC X d t oc rt Qr pc lv (.int y :: .int x :: r) S := by
  subst hp
  intro σ hσ
  by_cases q : icc c x y
  · obtain ⟨n, k⟩ := k1 q σ hσ
    exact wx_of h (n := n) ⟨fun _ => k, fun q' => absurd q q'⟩
  · obtain ⟨n, k⟩ := k2 q σ hσ
    exact wx_of h (n := n) ⟨fun q' => absurd q' q, fun _ => k⟩
theorem C_acmpE {f : Int} {rx ry : Option Nat} {v w : Value} {pc' : Nat} (h : t.lookup pc = some (.if_acmp .eq f, len)) (hp : jt pc f = pc') (hv : v = va_rf ry) (hw : w = va_rf rx) (k1 : rx = ry → WC X d t oc rt Qr pc' lv r S) (k2 : ¬ rx = ry → WC X d t oc rt Qr (pc + 3) lv r S) : WC X d t oc rt Qr pc lv (v :: w :: r) S := by
  subst hp
  intro σ hσ
  by_cases q : rx = ry
  · obtain ⟨n, k⟩ := k1 q σ hσ
    exact wx_of h (n := n) ⟨rx, ry, hv, hw, fun _ => k, fun q' => absurd q q'⟩
  · obtain ⟨n, k⟩ := k2 q σ hσ
    exact wx_of h (n := n) ⟨rx, ry, hv, hw, fun q' => absurd q' q, fun _ => k⟩
theorem C_acmpN {f : Int} {rx ry : Option Nat} {v w : Value} {pc' : Nat} (h : t.lookup pc = some (.if_acmp .ne f, len)) (hp : jt pc f = pc') (hv : v = va_rf ry) (hw : w = va_rf rx) (k1 : ¬ rx = ry → WC X d t oc rt Qr pc' lv r S) (k2 : rx = ry → WC X d t oc rt Qr (pc + 3) lv r S) : WC X d t oc rt Qr pc lv (v :: w :: r) S := by
  subst hp
  intro σ hσ
  by_cases q : rx = ry
  · obtain ⟨n, k⟩ := k2 q σ hσ
    exact wx_of h (n := n) ⟨rx, ry, hv, hw, fun q' => absurd q q', fun _ => k⟩
  · obtain ⟨n, k⟩ := k1 q σ hσ
    exact wx_of h (n := n) ⟨rx, ry, hv, hw, fun _ => k, fun q' => absurd q' q⟩
theorem C_ifnullT {f : Int} {pc' : Nat} (h : t.lookup pc = some (.ifnull f, len)) (hp : jt pc f = pc') (k : WC X d t oc rt Qr pc' lv r S) : WC X d t oc rt Qr pc lv (.null :: r) S := by
  subst hp
  intro σ hσ
  obtain ⟨n, k⟩ := k σ hσ
  exact wx_of h k
theorem C_ifnullF {f : Int} {a : Nat} (h : t.lookup pc = some (.ifnull f, len)) (k : WC X d t oc rt Qr (pc + 3) lv r S) : WC X d t oc rt Qr pc lv (.ref a :: r) S := by
  intro σ hσ
  obtain ⟨n, k⟩ := k σ hσ
  exact wx_of h k
theorem C_ifnonnullF {f : Int} (h : t.lookup pc = some (.ifnonnull f, len)) (k : WC X d t oc rt Qr (pc + 3) lv r S) : WC X d t oc rt Qr pc lv (.null :: r) S := by
  intro σ hσ
  obtain ⟨n, k⟩ := k σ hσ
  exact wx_of h k
theorem C_ifnonnullT {f : Int} {a pc' : Nat} (h : t.lookup pc = some (.ifnonnull f, len)) (hp : jt pc f = pc') (k : WC X d t oc rt Qr pc' lv r S) : WC X d t oc rt Qr pc lv (.ref a :: r) S := by
  subst hp
  intro σ hσ
  obtain ⟨n, k⟩ := k σ hσ
  exact wx_of h k
theorem C_table {df lo hi : Int} {offs : Array Int} {x : Int32} {pc' : Nat} (h : t.lookup pc = some (.tableswitch df lo hi offs, len)) (hp : jt pc (swt df lo hi offs x.toInt) = pc') (k : WC X d t oc rt Qr pc' lv r S) : WC X d t oc rt Qr pc lv (.int x :: r) S := by
  subst hp
  intro σ hσ
  obtain ⟨n, k⟩ := k σ hσ
  exact wx_of h k
theorem C_lookup {df : Int} {ps : Array (Int × Int)} {x : Int32} {pc' : Nat} (h : t.lookup pc = some (.lookupswitch df ps, len)) (hp : jt pc (Op.lookupswitch.offset ps.toList df x.toInt) = pc') (k : WC X d t oc rt Qr pc' lv r S) : WC X d t oc rt Qr pc lv (.int x :: r) S := by
  subst hp
  intro σ hσ
  obtain ⟨n, k⟩ := k σ hσ
  exact wx_of h k
theorem ccel_ob {np t0 i ci : Nat} (ht : t0 < 9) (hc : tcl.getD t0 99 = ci) : ccel np S t0 i = oB ci (ofs S t0 i) := by
  subst hc
  unfold ccel
  rw [if_pos ht]
theorem ccel_J {np t0 i : Nat} (ht : ¬ t0 < 9) (hc : akd.getD t0 9 = 1) : ccel np S t0 i = aJ (lnt np t0) (fun j => cJ S t0 j i) := by
  unfold ccel
  rw [if_neg ht, hc]
  rfl
theorem ccel_I {np t0 i : Nat} (ht : ¬ t0 < 9) (hc : akd.getD t0 9 = 0) : ccel np S t0 i = aI (lnt np t0) (fun j => cI S t0 j i) := by
  unfold ccel
  rw [if_neg ht, hc]
  rfl
theorem ccel_B {np t0 i : Nat} (ht : ¬ t0 < 9) (hc : akd.getD t0 9 = 2) : ccel np S t0 i = aB (lnt np t0) (fun j => cI S t0 j i) := by
  unfold ccel
  rw [if_neg ht, hc]
  rfl
theorem ccel_R {np t0 i q : Nat} (ht : ¬ t0 < 9) (hc : akd.getD t0 9 = q) (hq : q = 4 ∨ q = 5) : ccel np S t0 i = aR q (lnt np t0) (fun j => cP S t0 j i) := by
  unfold ccel
  rw [if_neg ht, hc]
  rcases hq with rfl | rfl <;> rfl
theorem akd_lt {t0 : Nat} (h : akd.getD t0 9 ≠ 9) : ¬ t0 < 9 ∧ t0 < 20 := by
  have h1 : (List.range 20).all (fun k => decide (akd.getD k 9 ≠ 9 → ¬ k < 9)) = true := by decide +kernel
  by_cases hk : t0 < 20
  · exact ⟨of_decide_eq_true (List.all_eq_true.mp h1 t0 (List.mem_range.mpr hk)) h, hk⟩
  · exact absurd (by rw [List.getD_eq_getElem?_getD, List.getElem?_eq_none (by show 20 ≤ t0; omega)]; rfl) h
/-- a field that is an int or a boolean -/
theorem C_getI {ix ci f w t0 i a : Nat} {ty : FieldType} (h : t.lookup pc = some (.getfield ix, len)) (hf : fres oc ix = some (ci, f, w)) (ht : t0 < 9) (hc : tcl.getD t0 99 = ci) (hty : (fTy.getD ci [])[f]? = some ty) (hI : ty = .int ∨ ty = .boolean) (ha : a = cA S t0 i) (he : cE S t0 i = true) (k : WC X d t oc rt Qr (pc + 3) lv (.int (cI S t0 f i) :: r) S) : WC X d t oc rt Qr pc lv (.ref a :: r) S := by
  subst ha
  intro σ hσ
  obtain ⟨n, k⟩ := k σ hσ
  refine wx_of h (n := n) ?_
  simp only [ins, hf]
  refine ⟨ofs S t0 i, _, (Rl_cel hσ (by omega) he).trans (by rw [ccel_ob ht hc]), ofs_get (by rw [hc]; exact hty), ?_⟩
  rcases hI with rfl | rfl <;> exact k
/-- a field that is an object or an array -/
theorem C_getP {ix ci f w t0 i a : Nat} {ty : FieldType} {v : Value} (h : t.lookup pc = some (.getfield ix, len)) (hf : fres oc ix = some (ci, f, w)) (ht : t0 < 9) (hc : tcl.getD t0 99 = ci) (hty : (fTy.getD ci [])[f]? = some ty) (hI : (∃ q, ty = .object q) ∨ ∃ q, ty = .array q) (ha : a = cA S t0 i) (he : cE S t0 i = true) (hv : va_rf (cP S t0 f i) = v) (k : WC X d t oc rt Qr (pc + 3) lv (v :: r) S) : WC X d t oc rt Qr pc lv (.ref a :: r) S := by
  subst ha; subst hv
  intro σ hσ
  obtain ⟨n, k⟩ := k σ hσ
  refine wx_of h (n := n) ?_
  simp only [ins, hf]
  refine ⟨ofs S t0 i, _, (Rl_cel hσ (by omega) he).trans (by rw [ccel_ob ht hc]), ofs_get (by rw [hc]; exact hty), ?_⟩
  rcases hI with ⟨q, rfl⟩ | ⟨q, rfl⟩ <;> exact k
theorem C_getR {ix ci f w t0 i a p : Nat} {ty : FieldType} (h : t.lookup pc = some (.getfield ix, len)) (hf : fres oc ix = some (ci, f, w)) (ht : t0 < 9) (hc : tcl.getD t0 99 = ci) (hty : (fTy.getD ci [])[f]? = some ty) (hI : (∃ q, ty = .object q) ∨ ∃ q, ty = .array q) (ha : a = cA S t0 i) (he : cE S t0 i = true) (hv : cP S t0 f i = some p) (k : WC X d t oc rt Qr (pc + 3) lv (.ref p :: r) S) : WC X d t oc rt Qr pc lv (.ref a :: r) S := C_getP h hf ht hc hty hI ha he (by rw [hv]; rfl) k
theorem C_getN {ix ci f w t0 i a : Nat} {ty : FieldType} (h : t.lookup pc = some (.getfield ix, len)) (hf : fres oc ix = some (ci, f, w)) (ht : t0 < 9) (hc : tcl.getD t0 99 = ci) (hty : (fTy.getD ci [])[f]? = some ty) (hI : (∃ q, ty = .object q) ∨ ∃ q, ty = .array q) (ha : a = cA S t0 i) (he : cE S t0 i = true) (hv : cP S t0 f i = none) (k : WC X d t oc rt Qr (pc + 3) lv (.null :: r) S) : WC X d t oc rt Qr pc lv (.ref a :: r) S := C_getP h hf ht hc hty hI ha he (by rw [hv]; rfl) k
theorem C_putI {ix ci f w t0 i a : Nat} {ty : FieldType} {x : Int32} (h : t.lookup pc = some (.putfield ix, len)) (hf : fres oc ix = some (ci, f, w)) (ht : t0 < 9) (hc : tcl.getD t0 99 = ci) (hty : (fTy.getD ci [])[f]? = some ty) (hI : ty = .int ∨ (ty = .boolean ∧ (x = 0 ∨ x = 1))) (ha : a = cA S t0 i) (he : cE S t0 i = true) (k : WC X d t oc rt Qr (pc + 3) lv r (setI S t0 f i x)) : WC X d t oc rt Qr pc lv (.int x :: .ref a :: r) S := by
  subst ha
  intro σ hσ
  have hs : oB ci ((ofs S t0 i).set f (.int x)) = ccel X.2.2.2.2.1 (setI S t0 f i x) t0 i := by
    rw [ccel_ob ht hc, ofs_set (S := S) (S' := setI S t0 f i x) (by rw [hc]; exact hty) (by rcases hI with rfl | ⟨rfl, -⟩ <;> (show Value.int (up3 S.1 t0 f i x t0 f i) = _; rw [up3_s])) (fun k' hk => up3_k hk) (fun _ _ => rfl)]
  have hR := Rl_put (S' := setI S t0 f i x) hσ (by omega) he rfl rfl rfl rfl setI_put
  obtain ⟨n, k⟩ := k _ hR
  refine wx_of h (n := n) ?_
  simp only [ins, hf]
  refine ⟨ofs S t0 i, (Rl_cel hσ (by omega) he).trans (by rw [ccel_ob ht hc]), by rw [ofs_len, hc]; exact (List.getElem?_eq_some_iff.mp hty).1, ?_, ?_⟩
  · rw [List.getD_eq_getElem?_getD, hty]
    rcases hI with rfl | ⟨rfl, hx⟩
    · trivial
    · exact hx
  · rw [hs]
    exact k
theorem C_putP {ix ci f w t0 i a : Nat} {ty : FieldType} {v : Value} {p : Option Nat} (h : t.lookup pc = some (.putfield ix, len)) (hf : fres oc ix = some (ci, f, w)) (ht : t0 < 9) (hc : tcl.getD t0 99 = ci) (hty : (fTy.getD ci [])[f]? = some ty) (hI : (∃ q, ty = .object q) ∨ ∃ q, ty = .array q) (ha : a = cA S t0 i) (he : cE S t0 i = true) (hv : v = va_rf p) (k : WC X d t oc rt Qr (pc + 3) lv r (setP S t0 f i p)) : WC X d t oc rt Qr pc lv (v :: .ref a :: r) S := by
  subst ha; subst hv
  intro σ hσ
  have hs : oB ci ((ofs S t0 i).set f (va_rf p)) = ccel X.2.2.2.2.1 (setP S t0 f i p) t0 i := by
    rw [ccel_ob ht hc, ofs_set (S := S) (S' := setP S t0 f i p) (by rw [hc]; exact hty) (by rcases hI with ⟨q, rfl⟩ | ⟨q, rfl⟩ <;> (show va_rf (up3 S.2.2.1 t0 f i p t0 f i) = _; rw [up3_s])) (fun _ _ => rfl) (fun k' hk => up3_k hk)]
  have hR := Rl_put (S' := setP S t0 f i p) hσ (by omega) he rfl rfl rfl rfl setP_put
  obtain ⟨n, k⟩ := k _ hR
  refine wx_of h (n := n) ?_
  simp only [ins, hf]
  refine ⟨ofs S t0 i, (Rl_cel hσ (by omega) he).trans (by rw [ccel_ob ht hc]), by rw [ofs_len, hc]; exact (List.getElem?_eq_some_iff.mp hty).1, ?_, ?_⟩
  · rw [List.getD_eq_getElem?_getD, hty]
    cases p <;> rcases hI with ⟨q, rfl⟩ | ⟨q, rfl⟩ <;> trivial
  · rw [hs]
    exact k
theorem lnt_lt31 {np : Nat} (hnp : np < 2 ^ 31) (t0 : Nat) : lnt np t0 < 2 ^ 31 := by
    unfold lnt
    split
    · exact hnp
    · have h1 : ∀ k, ([0, 0, 0, 0, 0, 0, 0, 0, 0, 2000, 200, 1000, 16, 4, 0, 1000, 40, 17, 40, 40] : List Nat).getD k 0 ≤ 2000 := by
        intro k
        by_cases hk : k < 20
        · have h1 : (List.range 20).all (fun k => decide (([0, 0, 0, 0, 0, 0, 0, 0, 0, 2000, 200, 1000, 16, 4, 0, 1000, 40, 17, 40, 40] : List Nat).getD k 0 ≤ 2000)) = true := by decide +kernel
          exact of_decide_eq_true (List.all_eq_true.mp h1 k (List.mem_range.mpr hk))
        · rw [List.getD_eq_getElem?_getD, List.getElem?_eq_none (by show 20 ≤ k; omega)]
          decide
      have := h1 t0
      omega
theorem lnt_lt {np t0 e : Nat} (hnp : np < 2 ^ 31) (h : e < lnt np t0) : e < 2 ^ 31 ∧ lnt np t0 < 2 ^ 31 := ⟨Nat.lt_trans h (lnt_lt31 hnp t0), lnt_lt31 hnp t0⟩
theorem C_lald {t0 i a e : Nat} {x : Int32} (hnp : xN X < 2 ^ 31) (h : t.lookup pc = some (.laload, len)) (hk : akd.getD t0 9 = 1) (ha : a = cA S t0 i) (he : cE S t0 i = true) (hx : x = nI e) (hl : e < lnt (xN X) t0) (k : WC X d t oc rt Qr (pc + 1) lv (.long (cJ S t0 e i) :: r) S) : WC X d t oc rt Qr pc lv (.int x :: .ref a :: r) S := by
  subst ha; subst hx
  intro σ hσ
  obtain ⟨n, k⟩ := k σ hσ
  obtain ⟨g1, g2⟩ := lnt_lt hnp hl
  obtain ⟨q1, q2⟩ := akd_lt (t0 := t0) (by rw [hk]; decide)
  have hce := (Rl_cel (b := X.2.1) (L := X.2.2.1) (xs := X.2.2.2.1) hσ q2 he).trans (congrArg some (ccel_J q1 hk))
  exact wx_of h (n := n) ⟨_, _, hce, vp_in_nI hl g2, by rw [nI_clamp g1]; exact k⟩
theorem C_iald {t0 i a e : Nat} {x : Int32} (hnp : xN X < 2 ^ 31) (h : t.lookup pc = some (.iaload, len)) (hk : akd.getD t0 9 = 0) (ha : a = cA S t0 i) (he : cE S t0 i = true) (hx : x = nI e) (hl : e < lnt (xN X) t0) (k : WC X d t oc rt Qr (pc + 1) lv (.int (cI S t0 e i) :: r) S) : WC X d t oc rt Qr pc lv (.int x :: .ref a :: r) S := by
  subst ha; subst hx
  intro σ hσ
  obtain ⟨n, k⟩ := k σ hσ
  obtain ⟨g1, g2⟩ := lnt_lt hnp hl
  obtain ⟨q1, q2⟩ := akd_lt (t0 := t0) (by rw [hk]; decide)
  have hce := (Rl_cel (b := X.2.1) (L := X.2.2.1) (xs := X.2.2.2.1) hσ q2 he).trans (congrArg some (ccel_I q1 hk))
  exact wx_of h (n := n) ⟨_, _, hce, vp_in_nI hl g2, by rw [nI_clamp g1]; exact k⟩
theorem C_bald {t0 i a e : Nat} {x : Int32} (hnp : xN X < 2 ^ 31) (h : t.lookup pc = some (.baload, len)) (hk : akd.getD t0 9 = 2) (ha : a = cA S t0 i) (he : cE S t0 i = true) (hx : x = nI e) (hl : e < lnt (xN X) t0) (k : WC X d t oc rt Qr (pc + 1) lv (.int (cI S t0 e i) :: r) S) : WC X d t oc rt Qr pc lv (.int x :: .ref a :: r) S := by
  subst ha; subst hx
  intro σ hσ
  obtain ⟨n, k⟩ := k σ hσ
  obtain ⟨g1, g2⟩ := lnt_lt hnp hl
  obtain ⟨q1, q2⟩ := akd_lt (t0 := t0) (by rw [hk]; decide)
  have hce := (Rl_cel (b := X.2.1) (L := X.2.2.1) (xs := X.2.2.2.1) hσ q2 he).trans (congrArg some (ccel_B q1 hk))
  exact wx_of h (n := n) ⟨_, _, Or.inl hce, vp_in_nI hl g2, by rw [nI_clamp g1]; exact k⟩
theorem C_aald {t0 i a e q : Nat} {x : Int32} {v : Value} (hnp : xN X < 2 ^ 31) (h : t.lookup pc = some (.aaload, len)) (hk : akd.getD t0 9 = q) (hq : q = 4 ∨ q = 5) (ha : a = cA S t0 i) (he : cE S t0 i = true) (hx : x = nI e) (hl : e < lnt (xN X) t0) (hv : va_rf (cP S t0 e i) = v) (k : WC X d t oc rt Qr (pc + 1) lv (v :: r) S) : WC X d t oc rt Qr pc lv (.int x :: .ref a :: r) S := by
  subst ha; subst hx; subst hv
  intro σ hσ
  obtain ⟨n, k⟩ := k σ hσ
  obtain ⟨g1, g2⟩ := lnt_lt hnp hl
  obtain ⟨q1, q2⟩ := akd_lt (t0 := t0) (by rw [hk]; rcases hq with rfl | rfl <;> decide)
  have hce := (Rl_cel (b := X.2.1) (L := X.2.2.1) (xs := X.2.2.2.1) hσ q2 he).trans (congrArg some (ccel_R q1 hk hq))
  exact wx_of h (n := n) ⟨_, _, _, hce, hq, vp_in_nI hl g2, by rw [nI_clamp g1]; exact k⟩
theorem C_last {t0 i a e : Nat} {x : Int32} {y : Int64} (hnp : xN X < 2 ^ 31) (h : t.lookup pc = some (.lastore, len)) (hk : akd.getD t0 9 = 1) (ha : a = cA S t0 i) (he : cE S t0 i = true) (hx : x = nI e) (hl : e < lnt (xN X) t0) (k : WC X d t oc rt Qr (pc + 1) lv r (setJ S t0 e i y)) : WC X d t oc rt Qr pc lv (.long y :: .int x :: .ref a :: r) S := by
  subst ha; subst hx
  intro σ hσ
  obtain ⟨g1, g2⟩ := lnt_lt hnp hl
  obtain ⟨q1, q2⟩ := akd_lt (t0 := t0) (by rw [hk]; decide)
  have hce := (Rl_cel (b := X.2.1) (L := X.2.2.1) (xs := X.2.2.2.1) hσ q2 he).trans (congrArg some (ccel_J q1 hk))
  have hR := Rl_put (S' := setJ S t0 e i y) hσ q2 he rfl rfl rfl rfl setJ_put
  obtain ⟨n, k⟩ := k _ hR
  refine wx_of h (n := n) ?_
  refine ⟨_, _, hce, vp_in_nI hl g2, ?_⟩
  have hf : vp_updL (fun j => cJ S t0 j i) (nI e).toNatClampNeg y = (fun j => cJ (setJ S t0 e i y) t0 j i) := (by
    funext j
    show _ = up3 _ t0 e i _ t0 j i
    by_cases hj : j = e
    · subst hj
      rw [up3_s]
      simp [vp_updL, nI_clamp g1]
    · rw [up3_k hj]
      simp [vp_updL, nI_clamp g1, hj]
      rfl)
  rw [hf]
  rw [ccel_J q1 hk] at k
  exact k
theorem C_iast {t0 i a e : Nat} {x : Int32} {y : Int32} (hnp : xN X < 2 ^ 31) (h : t.lookup pc = some (.iastore, len)) (hk : akd.getD t0 9 = 0) (ha : a = cA S t0 i) (he : cE S t0 i = true) (hx : x = nI e) (hl : e < lnt (xN X) t0) (k : WC X d t oc rt Qr (pc + 1) lv r (setI S t0 e i y)) : WC X d t oc rt Qr pc lv (.int y :: .int x :: .ref a :: r) S := by
  subst ha; subst hx
  intro σ hσ
  obtain ⟨g1, g2⟩ := lnt_lt hnp hl
  obtain ⟨q1, q2⟩ := akd_lt (t0 := t0) (by rw [hk]; decide)
  have hce := (Rl_cel (b := X.2.1) (L := X.2.2.1) (xs := X.2.2.2.1) hσ q2 he).trans (congrArg some (ccel_I q1 hk))
  have hR := Rl_put (S' := setI S t0 e i y) hσ q2 he rfl rfl rfl rfl setI_put
  obtain ⟨n, k⟩ := k _ hR
  refine wx_of h (n := n) ?_
  refine ⟨_, _, hce, (hσ.1 t0 i q2 he).1, vp_in_nI hl g2, ?_⟩
  have hf : upd (fun j => cI S t0 j i) (nI e).toNatClampNeg y = (fun j => cI (setI S t0 e i y) t0 j i) := (by
    funext j
    show _ = up3 _ t0 e i _ t0 j i
    by_cases hj : j = e
    · subst hj
      rw [up3_s]
      simp [upd, nI_clamp g1]
    · rw [up3_k hj]
      simp [upd, nI_clamp g1, hj]
      rfl)
  rw [hf]
  rw [ccel_I q1 hk] at k
  exact k
theorem C_bast {t0 i a e : Nat} {x : Int32} {y : Int32} (hnp : xN X < 2 ^ 31) (h : t.lookup pc = some (.bastore, len)) (hk : akd.getD t0 9 = 2) (ha : a = cA S t0 i) (he : cE S t0 i = true) (hx : x = nI e) (hl : e < lnt (xN X) t0) (hy : vp_nar .byte y = y) (k : WC X d t oc rt Qr (pc + 1) lv r (setI S t0 e i y)) : WC X d t oc rt Qr pc lv (.int y :: .int x :: .ref a :: r) S := by
  subst ha; subst hx
  intro σ hσ
  obtain ⟨g1, g2⟩ := lnt_lt hnp hl
  obtain ⟨q1, q2⟩ := akd_lt (t0 := t0) (by rw [hk]; decide)
  have hce := (Rl_cel (b := X.2.1) (L := X.2.2.1) (xs := X.2.2.2.1) hσ q2 he).trans (congrArg some (ccel_B q1 hk))
  have hR := Rl_put (S' := setI S t0 e i y) hσ q2 he rfl rfl rfl rfl setI_put
  obtain ⟨n, k⟩ := k _ hR
  refine wx_of h (n := n) ?_
  refine ⟨_, _, vp_in_nI hl g2, Or.inl ⟨hce, ?_⟩⟩
  have hf : upd (fun j => cI S t0 j i) (nI e).toNatClampNeg (vp_nar .byte y) = (fun j => cI (setI S t0 e i y) t0 j i) := (by
    funext j
    show _ = up3 _ t0 e i _ t0 j i
    by_cases hj : j = e
    · subst hj
      rw [up3_s]
      simp [upd, nI_clamp g1, hy]
    · rw [up3_k hj]
      simp [upd, nI_clamp g1, hj]
      rfl)
  rw [hf]
  rw [ccel_B q1 hk] at k
  exact k
theorem C_aast {t0 i a e q cv : Nat} {x : Int32} {v : Nat} {tv iv : Nat} (hnp : xN X < 2 ^ 31) (h : t.lookup pc = some (.aastore, len)) (hk : akd.getD t0 9 = q) (hq : (q = 4 ∧ tv = 5) ∨ (q = 5 ∧ tv = 8)) (ha : a = cA S t0 i) (he : cE S t0 i = true) (hx : x = nI e) (hl : e < lnt (xN X) t0) (hv : v = cA S tv iv) (hev : cE S tv iv = true) (k : WC X d t oc rt Qr (pc + 1) lv r (setP S t0 e i (some v))) : WC X d t oc rt Qr pc lv (.ref v :: .int x :: .ref a :: r) S := by
  subst ha; subst hx
  intro σ hσ
  obtain ⟨g1, g2⟩ := lnt_lt hnp hl
  have hq' : q = 4 ∨ q = 5 := by rcases hq with ⟨h1, -⟩ | ⟨h1, -⟩ <;> simp [h1]
  obtain ⟨q1, q2⟩ := akd_lt (t0 := t0) (by rw [hk]; rcases hq' with rfl | rfl <;> decide)
  have hce := (Rl_cel (b := X.2.1) (L := X.2.2.1) (xs := X.2.2.2.1) hσ q2 he).trans (congrArg some (ccel_R q1 hk hq'))
  have hR := Rl_put (S' := setP S t0 e i (some v)) hσ q2 he rfl rfl rfl rfl setP_put
  obtain ⟨n, k⟩ := k _ hR
  refine wx_of h (n := n) ?_
  have hf : va_up (fun j => cP S t0 j i) (nI e).toNatClampNeg (some v) = (fun j => cP (setP S t0 e i (some v)) t0 j i) := by
    funext j
    show _ = up3 _ t0 e i _ t0 j i
    by_cases hj : j = e
    · subst hj
      rw [up3_s]
      simp [va_up, nI_clamp g1]
    · rw [up3_k hj]
      simp [va_up, nI_clamp g1, hj]
      rfl
  refine ⟨_, _, _, ofs S tv iv, hce, vp_in_nI hl g2, ?_, ?_⟩
  · subst hv
    rcases hq with ⟨rfl, rfl⟩ | ⟨rfl, rfl⟩
    · exact Or.inl ⟨rfl, (Rl_cel hσ (by omega) hev).trans (by rw [ccel_ob (by decide) rfl]; rfl)⟩
    · exact Or.inr ⟨rfl, (Rl_cel hσ (by omega) hev).trans (by rw [ccel_ob (by decide) rfl]; rfl)⟩
  · rw [hf]
    rw [ccel_R q1 hk hq'] at k
    exact k
theorem C_aastN {t0 i a e q : Nat} {x : Int32} (hnp : xN X < 2 ^ 31) (h : t.lookup pc = some (.aastore, len)) (hk : akd.getD t0 9 = q) (hq : q = 4 ∨ q = 5) (ha : a = cA S t0 i) (he : cE S t0 i = true) (hx : x = nI e) (hl : e < lnt (xN X) t0) (k : WC X d t oc rt Qr (pc + 1) lv r (setP S t0 e i none)) : WC X d t oc rt Qr pc lv (.null :: .int x :: .ref a :: r) S := by
  subst ha; subst hx
  intro σ hσ
  obtain ⟨g1, g2⟩ := lnt_lt hnp hl
  obtain ⟨q1, q2⟩ := akd_lt (t0 := t0) (by rw [hk]; rcases hq with rfl | rfl <;> decide)
  have hce := (Rl_cel (b := X.2.1) (L := X.2.2.1) (xs := X.2.2.2.1) hσ q2 he).trans (congrArg some (ccel_R q1 hk hq))
  have hR := Rl_put (S' := setP S t0 e i none) hσ q2 he rfl rfl rfl rfl setP_put
  obtain ⟨n, k⟩ := k _ hR
  refine wx_of h (n := n) ?_
  have hf : va_up (fun j => cP S t0 j i) (nI e).toNatClampNeg none = (fun j => cP (setP S t0 e i none) t0 j i) := by
    funext j
    show _ = up3 _ t0 e i _ t0 j i
    by_cases hj : j = e
    · subst hj
      rw [up3_s]
      simp [va_up, nI_clamp g1]
    · rw [up3_k hj]
      simp [va_up, nI_clamp g1, hj]
      rfl
  refine ⟨_, _, _, hce, hq, vp_in_nI hl g2, ?_⟩
  rw [hf]
  rw [ccel_R q1 hk hq] at k
  exact k
theorem C_copyJ {ix j w t1 i1 t0 i0 sp dp m : Nat} {xm xd xs_ : Int32} {a1 a0 : Nat} {S' : CS} (hnp : xN X < 2 ^ 31) (h : t.lookup pc = some (.invokestatic ix, len)) (hm : mres oc ix = some (7, j, w)) (hw : wgt r ≤ 8) (hk0 : akd.getD t0 9 = 1) (hk1 : akd.getD t1 9 = 1) (ha0 : a0 = cA S t0 i0) (ha1 : a1 = cA S t1 i1) (he0 : cE S t0 i0 = true) (he1 : cE S t1 i1 = true) (hxm : xm = nI m) (hxd : xd = nI dp) (hxs : xs_ = nI sp) (hl0 : sp + m ≤ lnt (xN X) t0) (hl1 : dp + m ≤ lnt (xN X) t1)
    (hS1 : cI S' = cI S) (hS2 : cP S' = cP S) (hS3 : cA S' = cA S) (hS4 : cE S' = cE S) (hS5 : cn S' = cn S) (hS6 : cz S' = cz S) (hS7 : ∀ t' k' i', ¬ (t' = t1 ∧ i' = i1) → cJ S' t' k' i' = cJ S t' k' i') (hS8 : ∀ k', cJ S' t1 k' i1 = va_cpy (fun e => cJ S t0 e i0) (fun e => cJ S t1 e i1) sp dp m k')
    (k : WC X d t oc rt Qr (pc + 3) lv r S') : WC X d t oc rt Qr pc lv (.int xm :: .int xd :: .ref a1 :: .int xs_ :: .ref a0 :: r) S := by
  subst ha0; subst ha1; subst hxm; subst hxd; subst hxs
  intro σ hσ
  obtain ⟨q1, q2⟩ := akd_lt (t0 := t0) (by rw [hk0]; decide)
  obtain ⟨p1, p2⟩ := akd_lt (t0 := t1) (by rw [hk1]; decide)
  have n0 : lnt (xN X) t0 < 2 ^ 31 := lnt_lt31 hnp t0
  have n1 : lnt (xN X) t1 < 2 ^ 31 := lnt_lt31 hnp t1
  have hce0 := (Rl_cel (b := X.2.1) (L := X.2.2.1) (xs := X.2.2.2.1) hσ q2 he0).trans (congrArg some (ccel_J q1 hk0))
  have hce1 := (Rl_cel (b := X.2.1) (L := X.2.2.1) (xs := X.2.2.2.1) hσ p2 he1).trans (congrArg some (ccel_J p1 hk1))
  have hR := Rl_put (S' := S') hσ p2 he1 hS3 hS4 hS5 hS6 (fun t' i' hne => ccel_congr (fun _ => by rw [hS1]) (fun k' => hS7 t' k' i' hne) (fun _ => by rw [hS2]))
  obtain ⟨n, k⟩ := k _ hR
  refine wx_of h (n := n) ?_
  simp only [ins, hm]
  refine ⟨hw, nI_pos (by omega), nI_pos (by omega), nI_pos (by omega), Or.inr ⟨_, _, _, _, hce0, hce1, ?_, ?_, ?_⟩⟩
  · rw [nI_clamp (by omega), nI_clamp (by omega)]; exact hl0
  · rw [nI_clamp (by omega), nI_clamp (by omega)]; exact hl1
  · rw [nI_clamp (by omega), nI_clamp (by omega), nI_clamp (by omega)]
    rw [ccel_J p1 hk1, show (fun j => cJ S' t1 j i1) = va_cpy (fun e => cJ S t0 e i0) (fun e => cJ S t1 e i1) sp dp m from funext hS8] at k
    exact k
theorem C_copyB {ix j w t1 i1 t0 i0 sp dp m : Nat} {xm xd xs_ : Int32} {a1 a0 : Nat} {S' : CS} (hnp : xN X < 2 ^ 31) (h : t.lookup pc = some (.invokestatic ix, len)) (hm : mres oc ix = some (7, j, w)) (hw : wgt r ≤ 8) (hk0 : akd.getD t0 9 = 2) (hk1 : akd.getD t1 9 = 2) (ha0 : a0 = cA S t0 i0) (ha1 : a1 = cA S t1 i1) (he0 : cE S t0 i0 = true) (he1 : cE S t1 i1 = true) (hxm : xm = nI m) (hxd : xd = nI dp) (hxs : xs_ = nI sp) (hl0 : sp + m ≤ lnt (xN X) t0) (hl1 : dp + m ≤ lnt (xN X) t1) (hfit : ∀ e, e < m → fits .byte (.int (cI S t0 (sp + e) i0)) = true)
    (hS1 : cJ S' = cJ S) (hS2 : cP S' = cP S) (hS3 : cA S' = cA S) (hS4 : cE S' = cE S) (hS5 : cn S' = cn S) (hS6 : cz S' = cz S) (hS7 : ∀ t' k' i', ¬ (t' = t1 ∧ i' = i1) → cI S' t' k' i' = cI S t' k' i') (hS8 : ∀ k', cI S' t1 k' i1 = va_cpy (fun e => cI S t0 e i0) (fun e => cI S t1 e i1) sp dp m k')
    (k : WC X d t oc rt Qr (pc + 3) lv r S') : WC X d t oc rt Qr pc lv (.int xm :: .int xd :: .ref a1 :: .int xs_ :: .ref a0 :: r) S := by
  subst ha0; subst ha1; subst hxm; subst hxd; subst hxs
  intro σ hσ
  obtain ⟨q1, q2⟩ := akd_lt (t0 := t0) (by rw [hk0]; decide)
  obtain ⟨p1, p2⟩ := akd_lt (t0 := t1) (by rw [hk1]; decide)
  have n0 : lnt (xN X) t0 < 2 ^ 31 := lnt_lt31 hnp t0
  have n1 : lnt (xN X) t1 < 2 ^ 31 := lnt_lt31 hnp t1
  have hce0 := (Rl_cel (b := X.2.1) (L := X.2.2.1) (xs := X.2.2.2.1) hσ q2 he0).trans (congrArg some (ccel_B q1 hk0))
  have hce1 := (Rl_cel (b := X.2.1) (L := X.2.2.1) (xs := X.2.2.2.1) hσ p2 he1).trans (congrArg some (ccel_B p1 hk1))
  have hR := Rl_put (S' := S') hσ p2 he1 hS3 hS4 hS5 hS6 (fun t' i' hne => ccel_congr (fun k' => hS7 t' k' i' hne) (fun _ => by rw [hS1]) (fun _ => by rw [hS2]))
  obtain ⟨n, k⟩ := k _ hR
  refine wx_of h (n := n) ?_
  simp only [ins, hm]
  refine ⟨hw, nI_pos (by omega), nI_pos (by omega), nI_pos (by omega), Or.inl ⟨_, _, _, _, hce0, hce1, ?_, ?_, ?_, ?_⟩⟩
  · rw [nI_clamp (by omega), nI_clamp (by omega)]; exact hl0
  · rw [nI_clamp (by omega), nI_clamp (by omega)]; exact hl1
  · rw [nI_clamp (by omega), nI_clamp (by omega)]; exact hfit
  · rw [nI_clamp (by omega), nI_clamp (by omega), nI_clamp (by omega)]
    rw [ccel_B p1 hk1, show (fun j => cI S' t1 j i1) = va_cpy (fun e => cI S t0 e i0) (fun e => cI S t1 e i1) sp dp m from funext hS8] at k
    exact k
theorem C_alen {t0 i a : Nat} (h : t.lookup pc = some (.arraylength, len)) (hk : akd.getD t0 9 ≠ 9) (ha : a = cA S t0 i) (he : cE S t0 i = true) (k : WC X d t oc rt Qr (pc + 1) lv (.int (nI (lnt (xN X) t0)) :: r) S) : WC X d t oc rt Qr pc lv (.ref a :: r) S := by
  subst ha
  intro σ hσ
  obtain ⟨n, k⟩ := k σ hσ
  obtain ⟨q1, q2⟩ := akd_lt hk
  have hce := Rl_cel (b := X.2.1) (L := X.2.2.1) (xs := X.2.2.2.1) hσ q2 he
  have hc : ∃ (q : Nat) (y : (Nat → Int32) ⊕ (Nat → Int64) ⊕ (Nat → UInt32) ⊕ (Nat → UInt64) ⊕ (Nat → Option Nat)), ccel X.2.2.2.2.1 S t0 i = .inl (q, lnt X.2.2.2.2.1 t0, y) ∧ q < 6 := by
    have h1 : (List.range 20).all (fun k => decide (akd.getD k 9 ≠ 9 → akd.getD k 9 < 6)) = true := by decide +kernel
    have h2 := of_decide_eq_true (List.all_eq_true.mp h1 t0 (List.mem_range.mpr q2)) hk
    unfold ccel
    rw [if_neg q1]
    split
    · exact ⟨_, _, rfl, by decide⟩
    · exact ⟨_, _, rfl, by decide⟩
    · exact ⟨_, _, rfl, by decide⟩
    · exact ⟨_, _, rfl, h2⟩
  obtain ⟨q, y, h3, h4⟩ := hc
  exact wx_of h (n := n) ⟨q, _, y, hce.trans (congrArg some h3), h4, k⟩
theorem C_iret {x : Int32} {ty : FieldType} (h : t.lookup pc = some (.ireturn, len)) (hr : rt = some ty) (hf : fitV ty (.int x)) (k : Qr (some (.int x)) S) : WC X d t oc rt Qr pc lv [.int x] S := by
  subst hr
  intro σ hσ
  exact wx_of h (n := 0) ⟨hf, S, hσ, k⟩
theorem C_lret {x : Int64} (h : t.lookup pc = some (.lreturn, len)) (hr : rt = some .long) (k : Qr (some (.long x)) S) : WC X d t oc rt Qr pc lv [.long x] S := by
  subst hr
  intro σ hσ
  exact wx_of h (n := 0) ⟨S, hσ, k⟩
theorem C_aret {a : Nat} {q : String} (h : t.lookup pc = some (.areturn, len)) (hr : rt = some (.object q)) (k : Qr (some (.ref a)) S) : WC X d t oc rt Qr pc lv [.ref a] S := by
  subst hr
  intro σ hσ
  exact wx_of h (n := 0) ⟨S, hσ, k⟩
theorem C_aretN {q : String} (h : t.lookup pc = some (.areturn, len)) (hr : rt = some (.object q)) (k : Qr (some .null) S) : WC X d t oc rt Qr pc lv [.null] S := by
  subst hr
  intro σ hσ
  exact wx_of h (n := 0) ⟨S, hσ, k⟩
theorem C_ret (h : t.lookup pc = some (.return_, len)) (hr : rt = none) (k : Qr none S) : WC X d t oc rt Qr pc lv [] S := by
  subst hr
  intro σ hσ
  exact wx_of h (n := 0) ⟨S, hσ, k⟩
theorem C_virt {i j ix a t0 i0 : Nat} {md : MD} {av rest : List Value} {Qc : Option Value → CS → Prop} (h : t.lookup pc = some (.invokevirtual i, len)) (hm : mres oc i = some (0, j, ix)) (hp : prog[j]? = some md) (h0 : st[md.2.2.2.2.1]? = some (.ref a)) (ht : t0 < 9) (hcl : tcl.getD t0 99 = md.2.2.2.2.2.1) (ha : a = cA S t0 i0) (he : cE S t0 i0 = true) (hav : .ref a :: (st.take md.2.2.2.2.1).reverse = av) (hrest : st.drop (md.2.2.2.2.1 + 1) = rest) (hw : wgt rest ≤ 8) (hc : CalC X d j av S Qc) (k : ∀ v S', Qc v S' → WC X d t oc rt Qr (pc + 3) lv (v.toList ++ rest) S') : WC X d t oc rt Qr pc lv st S := by
  subst hav; subst hrest; subst ha
  intro σ hσ
  obtain ⟨v, σ1, S', h1, h2, h3⟩ := hc σ hσ
  obtain ⟨n, k⟩ := k v S' h3 σ1 h2
  refine wx_of h (n := n) ?_
  simp only [ins, hm, hp]
  exact ⟨_, ofs S t0 i0, v, σ1, h0, (Rl_cel hσ (by omega) he).trans (by rw [ccel_ob ht hcl]), hw, h1, k⟩
theorem C_stat {i j ix kd : Nat} {md : MD} {av rest : List Value} {Qc : Option Value → CS → Prop} (h : t.lookup pc = some (.invokestatic i, len)) (hm : mres oc i = some (kd, j, ix)) (hkd : kd = 1 ∨ kd = 4) (hp : prog[j]? = some md) (hln : md.2.2.2.2.1 ≤ st.length) (hav : (st.take md.2.2.2.2.1).reverse = av) (hrest : st.drop md.2.2.2.2.1 = rest) (hw : wgt rest ≤ 8) (hc : CalC X d j av S Qc) (k : ∀ v S', Qc v S' → WC X d t oc rt Qr (pc + 3) lv (v.toList ++ rest) S') : WC X d t oc rt Qr pc lv st S := by
  subst hav; subst hrest
  intro σ hσ
  obtain ⟨v, σ1, S', h1, h2, h3⟩ := hc σ hσ
  obtain ⟨n, k⟩ := k v S' h3 σ1 h2
  refine wx_of h (n := n) ?_
  rcases hkd with rfl | rfl <;> (simp only [ins, hm, hp]; exact ⟨by decide, v, σ1, hln, hw, h1, k⟩)
theorem C_spec {i j ix kd a : Nat} {md : MD} {av rest : List Value} {Qc : Option Value → CS → Prop} (h : t.lookup pc = some (.invokespecial i, len)) (hm : mres oc i = some (kd, j, ix)) (hkd : kd = 2 ∨ kd = 5) (hp : prog[j]? = some md) (h0 : st[md.2.2.2.2.1]? = some (.ref a)) (hav : .ref a :: (st.take md.2.2.2.2.1).reverse = av) (hrest : st.drop (md.2.2.2.2.1 + 1) = rest) (hw : wgt rest ≤ 8) (hc : CalC X d j av S Qc) (k : ∀ v S', Qc v S' → WC X d t oc rt Qr (pc + 3) lv (v.toList ++ rest) S') : WC X d t oc rt Qr pc lv st S := by
  subst hav; subst hrest
  intro σ hσ
  obtain ⟨v, σ1, S', h1, h2, h3⟩ := hc σ hσ
  obtain ⟨n, k⟩ := k v S' h3 σ1 h2
  refine wx_of h (n := n) ?_
  rcases hkd with rfl | rfl <;> (simp only [ins, hm, hp]; exact ⟨by decide, a, v, σ1, h0, hw, h1, k⟩)
theorem C_objinit {i j ix a : Nat} (h : t.lookup pc = some (.invokespecial i, len)) (hm : mres oc i = some (6, j, ix)) (hw : wgt r ≤ 8) (k : WC X d t oc rt Qr (pc + 3) lv r S) : WC X d t oc rt Qr pc lv (.ref a :: r) S := by
  intro σ hσ
  obtain ⟨n, k⟩ := k σ hσ
  refine wx_of h (n := n) ?_
  simp only [ins, hm]
  exact ⟨hw, k⟩
theorem C_max {i j ix : Nat} {x y v : Int32} (h : t.lookup pc = some (.invokestatic i, len)) (hm : mres oc i = some (8, j, ix)) (hw : wgt r ≤ 8) (hv : (if x < y then y else x) = v) (k : WC X d t oc rt Qr (pc + 3) lv (.int v :: r) S) : WC X d t oc rt Qr pc lv (.int y :: .int x :: r) S := by
  subst hv
  intro σ hσ
  obtain ⟨n, k⟩ := k σ hσ
  refine wx_of h (n := n) ?_
  simp only [ins, hm]
  exact ⟨hw, k⟩
theorem C_min {i j ix : Nat} {x y v : Int32} (h : t.lookup pc = some (.invokestatic i, len)) (hm : mres oc i = some (9, j, ix)) (hw : wgt r ≤ 8) (hv : (if y < x then y else x) = v) (k : WC X d t oc rt Qr (pc + 3) lv (.int v :: r) S) : WC X d t oc rt Qr pc lv (.int y :: .int x :: r) S := by
  subst hv
  intro σ hσ
  obtain ⟨n, k⟩ := k σ hσ
  refine wx_of h (n := n) ?_
  simp only [ins, hm]
  exact ⟨hw, k⟩
theorem C_new {ix ci t0 i a : Nat} {w : Nat × Nat × Nat} (h : t.lookup pc = some (.new ix, len)) (hcr : cres oc ix = some (ci, w)) (ht : t0 < 9) (hc : tcl.getD t0 99 = ci) (hd : dfl.getD ci [] = ofs (newS S (xZ X) t0 i (nF ci)) t0 i) (he : cE S t0 i = false) (ha : xZ X + cn S = a) (k : WC X d t oc rt Qr (pc + 3) lv (.ref a :: st) (newS S (xZ X) t0 i (nF ci))) : WC X d t oc rt Qr pc lv st S := by
  subst ha
  intro σ hσ
  have hce : ccel X.2.2.2.2.1 (newS S X.1 t0 i (nF ci)) t0 i = oB ci (dfl.getD ci []) := by
    rw [ccel_ob ht hc, ← hd]
  have hR := Rl_new (t := t0) (i := i) (w := nF ci) hσ (by omega) he (by rw [hce]; rfl)
  obtain ⟨n, k⟩ := k _ hR
  refine wx_of h (n := n) ?_
  simp only [ins, hcr]
  have hlen : σ.length = cn S := hσ.2.2.2.1
  rw [hlen, ← hce]
  exact k
theorem C_newB {t0 i a : Nat} {x : Int32} (h : t.lookup pc = some (.newarray .byte, len)) (hk : akd.getD t0 9 = 2) (hx : x = nI (lnt (xN X) t0)) (hl : lnt (xN X) t0 ≤ 80000) (he : cE S t0 i = false) (ha : xZ X + cn S = a) (k : WC X d t oc rt Qr (pc + 2) lv (.ref a :: r) (newS S (xZ X) t0 i (lnt (xN X) t0))) : WC X d t oc rt Qr pc lv (.int x :: r) S := by
  subst ha; subst hx
  intro σ hσ
  obtain ⟨q1, q2⟩ := akd_lt (t0 := t0) (by rw [hk]; decide)
  have hce : ccel X.2.2.2.2.1 (newS S X.1 t0 i (lnt X.2.2.2.2.1 t0)) t0 i = aB (lnt X.2.2.2.2.1 t0) (fun _ => 0) := by
    rw [ccel_B q1 hk]
    congr 4
    funext j
    exact newS_s.1 j
  have hR := Rl_new (t := t0) (i := i) (w := lnt X.2.2.2.2.1 t0) hσ q2 he (by rw [hce]; rfl)
  obtain ⟨n, k⟩ := k _ hR
  have h31 : lnt X.2.2.2.2.1 t0 < 2 ^ 31 := Nat.lt_of_le_of_lt hl (by decide)
  have hlen : σ.length = cn S := hσ.2.2.2.1
  refine wx_of h (n := n) ⟨nI_pos h31, by rw [nI_clamp h31]; exact hl, ?_⟩
  show wpX X d t oc rt (QS X Qr) n (pc + 2) lv (.ref (X.1 + σ.length) :: r) (σ ++ [aB (nI (lnt X.2.2.2.2.1 t0)).toNatClampNeg (fun _ => 0)])
  rw [nI_clamp h31, hlen, ← hce]
  exact k
theorem C_newJ {t0 i a : Nat} {x : Int32} (h : t.lookup pc = some (.newarray .long, len)) (hk : akd.getD t0 9 = 1) (hx : x = nI (lnt (xN X) t0)) (hl : lnt (xN X) t0 ≤ 80000) (he : cE S t0 i = false) (ha : xZ X + cn S = a) (k : WC X d t oc rt Qr (pc + 2) lv (.ref a :: r) (newS S (xZ X) t0 i (lnt (xN X) t0))) : WC X d t oc rt Qr pc lv (.int x :: r) S := by
  subst ha; subst hx
  intro σ hσ
  obtain ⟨q1, q2⟩ := akd_lt (t0 := t0) (by rw [hk]; decide)
  have hce : ccel X.2.2.2.2.1 (newS S X.1 t0 i (lnt X.2.2.2.2.1 t0)) t0 i = aJ (lnt X.2.2.2.2.1 t0) (fun _ => 0) := by
    rw [ccel_J q1 hk]
    congr 5
    funext j
    exact newS_s.2.1 j
  have hR := Rl_new (t := t0) (i := i) (w := lnt X.2.2.2.2.1 t0) hσ q2 he (by rw [hce]; rfl)
  obtain ⟨n, k⟩ := k _ hR
  have h31 : lnt X.2.2.2.2.1 t0 < 2 ^ 31 := Nat.lt_of_le_of_lt hl (by decide)
  have hlen : σ.length = cn S := hσ.2.2.2.1
  refine wx_of h (n := n) ⟨nI_pos h31, by rw [nI_clamp h31]; exact hl, ?_⟩
  show wpX X d t oc rt (QS X Qr) n (pc + 2) lv (.ref (X.1 + σ.length) :: r) (σ ++ [aJ (nI (lnt X.2.2.2.2.1 t0)).toNatClampNeg (fun _ => 0)])
  rw [nI_clamp h31, hlen, ← hce]
  exact k
theorem C_newI {t0 i a : Nat} {x : Int32} (h : t.lookup pc = some (.newarray .int, len)) (hk : akd.getD t0 9 = 0) (hx : x = nI (lnt (xN X) t0)) (hl : lnt (xN X) t0 ≤ 80000) (he : cE S t0 i = false) (ha : xZ X + cn S = a) (k : WC X d t oc rt Qr (pc + 2) lv (.ref a :: r) (newS S (xZ X) t0 i (lnt (xN X) t0))) : WC X d t oc rt Qr pc lv (.int x :: r) S := by
  subst ha; subst hx
  intro σ hσ
  obtain ⟨q1, q2⟩ := akd_lt (t0 := t0) (by rw [hk]; decide)
  have hce : ccel X.2.2.2.2.1 (newS S X.1 t0 i (lnt X.2.2.2.2.1 t0)) t0 i = aI (lnt X.2.2.2.2.1 t0) (fun _ => 0) := by
    rw [ccel_I q1 hk]
    congr 4
    funext j
    exact newS_s.1 j
  have hR := Rl_new (t := t0) (i := i) (w := lnt X.2.2.2.2.1 t0) hσ q2 he (by rw [hce]; rfl)
  obtain ⟨n, k⟩ := k _ hR
  have h31 : lnt X.2.2.2.2.1 t0 < 2 ^ 31 := Nat.lt_of_le_of_lt hl (by decide)
  have hlen : σ.length = cn S := hσ.2.2.2.1
  refine wx_of h (n := n) ⟨nI_pos h31, by rw [nI_clamp h31]; exact hl, ?_⟩
  show wpX X d t oc rt (QS X Qr) n (pc + 2) lv (.ref (X.1 + σ.length) :: r) (σ ++ [aI (nI (lnt X.2.2.2.2.1 t0)).toNatClampNeg (fun _ => 0)])
  rw [nI_clamp h31, hlen, ← hce]
  exact k
theorem C_newR {ix t0 i a q w : Nat} {x : Int32} (h : t.lookup pc = some (.anewarray ix, len)) (hqr : qres oc ix = some (q, w)) (hk : akd.getD t0 9 = q) (hq : q = 4 ∨ q = 5) (hx : x = nI (lnt (xN X) t0)) (hl : lnt (xN X) t0 ≤ 80000) (he : cE S t0 i = false) (ha : xZ X + cn S = a) (k : WC X d t oc rt Qr (pc + 3) lv (.ref a :: r) (newS S (xZ X) t0 i (lnt (xN X) t0))) : WC X d t oc rt Qr pc lv (.int x :: r) S := by
  subst ha; subst hx
  intro σ hσ
  obtain ⟨q1, q2⟩ := akd_lt (t0 := t0) (by rw [hk]; rcases hq with rfl | rfl <;> decide)
  have hce : ccel X.2.2.2.2.1 (newS S X.1 t0 i (lnt X.2.2.2.2.1 t0)) t0 i = aR q (lnt X.2.2.2.2.1 t0) (fun _ => none) := by
    rw [ccel_R q1 hk hq]
    congr 7
    funext j
    exact newS_s.2.2.1 j
  have hR := Rl_new (t := t0) (i := i) (w := lnt X.2.2.2.2.1 t0) hσ q2 he (by rw [hce]; rfl)
  obtain ⟨n, k⟩ := k _ hR
  have h31 : lnt X.2.2.2.2.1 t0 < 2 ^ 31 := Nat.lt_of_le_of_lt hl (by decide)
  have hlen : σ.length = cn S := hσ.2.2.2.1
  refine wx_of h (n := n) ?_
  simp only [ins, hqr]
  refine ⟨nI_pos h31, by rw [nI_clamp h31]; exact hl, ?_⟩
  rw [nI_clamp h31, hlen, ← hce]
  exact k
theorem C_top {v w : Value} (h : v = w) (k : WC X d t oc rt Qr pc lv (w :: r) S) : WC X d t oc rt Qr pc lv (v :: r) S := h ▸ k
theorem C_topi {x y : Int32} (h : x = y) (k : WC X d t oc rt Qr pc lv (.int y :: r) S) : WC X d t oc rt Qr pc lv (.int x :: r) S := h ▸ k
theorem C_topl {x y : Int64} (h : x = y) (k : WC X d t oc rt Qr pc lv (.long y :: r) S) : WC X d t oc rt Qr pc lv (.long x :: r) S := h ▸ k
theorem C_iaddN {a b : Nat} (h : t.lookup pc = some (.iadd, len)) (k : WC X d t oc rt Qr (pc + 1) lv (.int (nI (a + b)) :: r) S) : WC X d t oc rt Qr pc lv (.int (nI b) :: .int (nI a) :: r) S := C_iadd h (by rw [nI_add]; exact k)
theorem C_imulN {a b : Nat} (h : t.lookup pc = some (.imul, len)) (k : WC X d t oc rt Qr (pc + 1) lv (.int (nI (a * b)) :: r) S) : WC X d t oc rt Qr pc lv (.int (nI b) :: .int (nI a) :: r) S := C_imul h (by rw [pk_mul]; exact k)
theorem C_isubN {a b : Nat} (h : t.lookup pc = some (.isub, len)) (hb : b ≤ a) (k : WC X d t oc rt Qr (pc + 1) lv (.int (nI (a - b)) :: r) S) : WC X d t oc rt Qr pc lv (.int (nI b) :: .int (nI a) :: r) S := C_isub h (by rw [pk_sub hb]; exact k)
end CR
theorem CalC_of {X : Ev} {d j : Nat} {md : MD} {av : List Value} {S : CS} {Qc : Option Value → CS → Prop} (hp : prog[j]? = some md) (hl : (lg_sl av).length ≤ md.2.2.1) (h : WC X d md.2.2.2.2.2.2.2 md.2.2.2.2.2.1 md.2.2.2.1 Qc 0 (lv_args 0 av) [] S) : CalC X (d + 1) j av S Qc := by
  intro σ hσ
  obtain ⟨n, h⟩ := h σ hσ
  obtain ⟨v, σ1, ⟨S', hR, hQ⟩, h⟩ := wp_ex n _ _ _ _ h
  refine ⟨v, σ1, S', ?_, hR, hQ⟩
  simp only [CalX, Cal, hp]
  exact ⟨hl, n, h⟩
theorem CalC.mono {X : Ev} {d j : Nat} {av : List Value} {S : CS} {Q Q' : Option Value → CS → Prop} (h : CalC X d j av S Q) (hq : ∀ v S', Q v S' → Q' v S') : CalC X d j av S Q' := by
  intro σ hσ
  obtain ⟨v, σ1, S', h1, h2, h3⟩ := h σ hσ
  exact ⟨v, σ1, S', h1, h2, hq v S' h3⟩
