/-! ===== THE ENGINE: a symbolic executor of the decoded bytecode over a plain heap ===== -/
/-- the heap that the law makes: cell i lies at the address z + i. An array's first number is its kind: 0 int, 1 long, 2 byte, 3 boolean, 4 Word[], 5 Thing[] -/
abbrev Hp : Type := List va_E
abbrev Lv : Type := List (Nat × Value)
abbrev aI (n : Nat) (f : Nat → Int32) : va_E := .inl (0, n, .inl f)
abbrev aJ (n : Nat) (f : Nat → Int64) : va_E := .inl (1, n, .inr (.inl f))
abbrev aB (n : Nat) (f : Nat → Int32) : va_E := .inl (2, n, .inl f)
abbrev aZ (n : Nat) (f : Nat → Int32) : va_E := .inl (3, n, .inl f)
abbrev aR (t n : Nat) (f : Nat → Option Nat) : va_E := .inl (t, n, .inr (.inr (.inr (.inr f))))
abbrev oB (ci : Nat) (fs : List Value) : va_E := .inr (ci, fs)
/-- the cell at an address: the script's, or one of ours -/
def cel (z b L : Nat) (xs : Nat → Int32) (σ : Hp) (a : Nat) : Option va_E := if z ≤ a then σ[a - z]? else if a = b then some (aI L xs) else none
def upc (z : Nat) (σ : Hp) (a : Nat) (e : va_E) : Hp := σ.set (a - z) e
def nF (ci : Nat) : Nat := (dfl.getD ci []).length
def esz : va_E → Nat
  | .inl x => x.2.1
  | .inr o => nF o.1
def szH (σ : Hp) : Nat := (σ.map esz).sum
/-- what may stand in a field or come out of a method -/
def fitV : FieldType → Value → Prop
  | .int, .int _ => True
  | .boolean, .int x => x = 0 ∨ x = 1
  | .long, .long _ => True
  | .object _, .null => True
  | .object _, .ref _ => True
  | .array _, .null => True
  | .array _, .ref _ => True
  | _, _ => False
def wgt (r : List Value) : Nat := (r.map fun v => v.category).sum
def lvs (i : Nat) (v : Value) (lv : Lv) : Lv := (i, v) :: lv.filter (fun q => !(q.1 == i) && !(q.1 + 1 == i && q.2.category == 2))
def lvl (i : Nat) (v : Value) (lv : Lv) : Lv := (i, v) :: lv.filter (fun q => !(q.1 == i) && (!(q.1 == i + 1) && !(q.1 + 1 == i && q.2.category == 2)))
def jt (pc : Nat) (f : Int) : Nat := ((pc : Int) + f).toNat
def icc : ClassFile.Cond → Int32 → Int32 → Prop
  | .eq, x, y => x = y
  | .ne, x, y => ¬ x = y
  | .lt, x, y => x < y
  | .ge, x, y => y ≤ x
  | .gt, x, y => y < x
  | .le, x, y => x ≤ y
def swt (d lo hi : Int) (offs : Array Int) (x : Int) : Int := if x < lo ∨ hi < x then d else (offs[(x - lo).toNat]?).getD 0
abbrev Crel : Type := Nat → List Value → Hp → Option Value → Hp → Prop
/-- one instruction: K takes what comes behind it; Qr takes what is returned -/
def ins (z b L : Nat) (xs : Nat → Int32) (C : Crel) (oc : Nat) (rt : Option FieldType) (Qr : Option Value → Hp → Prop) (K : Nat → Lv → List Value → Hp → Prop) (pc : Nat) (lv : Lv) (st : List Value) (σ : Hp) : Instr → Prop
  | .iconst n => K (pc + 1) lv (.int (Int32.ofInt n) :: st) σ
  | .bipush n => K (pc + 2) lv (.int (Int8.ofInt n).toInt32 :: st) σ
  | .sipush n => K (pc + 3) lv (.int (Int16.ofInt n).toInt32 :: st) σ
  | .lconst n => K (pc + 1) lv (.long (Int64.ofNat n.val) :: st) σ
  | .aconst_null => K (pc + 1) lv (.null :: st) σ
  | .ldc i => match kres oc i with
    | some (v, _) => K (pc + 2) lv (.int v :: st) σ
    | none => False
  | .ldc2_w i => match jres oc i with
    | some (v, _) => K (pc + 3) lv (.long v :: st) σ
    | none => False
  | .iload_n i => match lv.lookup i.val with
    | some (.int x) => K (pc + 1) lv (.int x :: st) σ
    | _ => False
  | .iload i => match lv.lookup i with
    | some (.int x) => K (pc + 2) lv (.int x :: st) σ
    | _ => False
  | .lload_n i => match lv.lookup i.val with
    | some (.long x) => K (pc + 1) lv (.long x :: st) σ
    | _ => False
  | .lload i => match lv.lookup i with
    | some (.long x) => K (pc + 2) lv (.long x :: st) σ
    | _ => False
  | .aload_n i => match lv.lookup i.val with
    | some (.ref x) => K (pc + 1) lv (.ref x :: st) σ
    | some .null => K (pc + 1) lv (.null :: st) σ
    | _ => False
  | .aload i => match lv.lookup i with
    | some (.ref x) => K (pc + 2) lv (.ref x :: st) σ
    | some .null => K (pc + 2) lv (.null :: st) σ
    | _ => False
  | .istore_n i => match st with
    | .int x :: r => K (pc + 1) (lvs i.val (.int x) lv) r σ
    | _ => False
  | .istore i => match st with
    | .int x :: r => K (pc + 2) (lvs i (.int x) lv) r σ
    | _ => False
  | .lstore_n i => match st with
    | .long x :: r => K (pc + 1) (lvl i.val (.long x) lv) r σ
    | _ => False
  | .lstore i => match st with
    | .long x :: r => K (pc + 2) (lvl i (.long x) lv) r σ
    | _ => False
  | .astore_n i => match st with
    | .ref x :: r => K (pc + 1) (lvs i.val (.ref x) lv) r σ
    | .null :: r => K (pc + 1) (lvs i.val .null lv) r σ
    | _ => False
  | .astore i => match st with
    | .ref x :: r => K (pc + 2) (lvs i (.ref x) lv) r σ
    | .null :: r => K (pc + 2) (lvs i .null lv) r σ
    | _ => False
  | .iinc i n => match lv.lookup i with
    | some (.int x) => K (pc + 3) (lvs i (.int (x + Int32.ofInt n)) lv) st σ
    | _ => False
  | .iadd => match st with
    | .int y :: .int x :: r => K (pc + 1) lv (.int (x + y) :: r) σ
    | _ => False
  | .isub => match st with
    | .int y :: .int x :: r => K (pc + 1) lv (.int (x - y) :: r) σ
    | _ => False
  | .imul => match st with
    | .int y :: .int x :: r => K (pc + 1) lv (.int (x * y) :: r) σ
    | _ => False
  | .iand => match st with
    | .int y :: .int x :: r => K (pc + 1) lv (.int (x &&& y) :: r) σ
    | _ => False
  | .idiv => match st with
    | .int y :: .int x :: r => ¬ y = 0 ∧ K (pc + 1) lv (.int (x / y) :: r) σ
    | _ => False
  | .ineg => match st with
    | .int x :: r => K (pc + 1) lv (.int (-x) :: r) σ
    | _ => False
  | .ishr => match st with
    | .int y :: .int x :: r => K (pc + 1) lv (.int (x >>> (y &&& 31)) :: r) σ
    | _ => False
  | .ladd => match st with
    | .long y :: .long x :: r => K (pc + 1) lv (.long (x + y) :: r) σ
    | _ => False
  | .lsub => match st with
    | .long y :: .long x :: r => K (pc + 1) lv (.long (x - y) :: r) σ
    | _ => False
  | .lmul => match st with
    | .long y :: .long x :: r => K (pc + 1) lv (.long (x * y) :: r) σ
    | _ => False
  | .ldiv => match st with
    | .long y :: .long x :: r => ¬ y = 0 ∧ K (pc + 1) lv (.long (x / y) :: r) σ
    | _ => False
  | .lrem => match st with
    | .long y :: .long x :: r => ¬ y = 0 ∧ K (pc + 1) lv (.long (x - x / y * y) :: r) σ
    | _ => False
  | .land => match st with
    | .long y :: .long x :: r => K (pc + 1) lv (.long (x &&& y) :: r) σ
    | _ => False
  | .lor => match st with
    | .long y :: .long x :: r => K (pc + 1) lv (.long (x ||| y) :: r) σ
    | _ => False
  | .lushr => match st with
    | .int y :: .long x :: r => K (pc + 1) lv (.long (x.toUInt64 >>> (y.toInt64.toUInt64 &&& Int64.toUInt64 63)).toInt64 :: r) σ
    | _ => False
  | .lshl => match st with
    | .int y :: .long x :: r => K (pc + 1) lv (.long (x <<< (y.toInt64 &&& 63)) :: r) σ
    | _ => False
  | .lcmp => match st with
    | .long y :: .long x :: r => K (pc + 1) lv (.int (lg_cmp x y) :: r) σ
    | _ => False
  | .i2l => match st with
    | .int x :: r => K (pc + 1) lv (.long x.toInt64 :: r) σ
    | _ => False
  | .l2i => match st with
    | .long x :: r => K (pc + 1) lv (.int x.toInt32 :: r) σ
    | _ => False
  | .i2b => match st with
    | .int x :: r => K (pc + 1) lv (.int x.toInt8.toInt32 :: r) σ
    | _ => False
  | .dup => match st with
    | v :: r => v.category = 1 ∧ K (pc + 1) lv (v :: v :: r) σ
    | _ => False
  | .dup2 => match st with
    | v :: w :: r => v.category = 1 ∧ w.category = 1 ∧ K (pc + 1) lv (v :: w :: v :: w :: r) σ
    | _ => False
  | .pop => match st with
    | v :: r => v.category = 1 ∧ K (pc + 1) lv r σ
    | _ => False
  | .goto f => K (jt pc f) lv st σ
  | .ifCond c f => match st with
    | .int x :: r => (icc c x 0 → K (jt pc f) lv r σ) ∧ (¬ icc c x 0 → K (pc + 3) lv r σ)
    | _ => False
  | .if_icmp c f => match st with
    | .int y :: .int x :: r => (icc c x y → K (jt pc f) lv r σ) ∧ (¬ icc c x y → K (pc + 3) lv r σ)
    | _ => False
  | .ifnull f => match st with
    | .null :: r => K (jt pc f) lv r σ
    | .ref _ :: r => K (pc + 3) lv r σ
    | _ => False
  | .ifnonnull f => match st with
    | .null :: r => K (pc + 3) lv r σ
    | .ref _ :: r => K (jt pc f) lv r σ
    | _ => False
  | .if_acmp c f => match st with
    | v :: w :: r => ∃ rx ry : Option Nat, v = va_rf ry ∧ w = va_rf rx ∧ match c with
      | .eq => (rx = ry → K (jt pc f) lv r σ) ∧ (¬ rx = ry → K (pc + 3) lv r σ)
      | .ne => (¬ rx = ry → K (jt pc f) lv r σ) ∧ (rx = ry → K (pc + 3) lv r σ)
    | _ => False
  | .tableswitch d lo hi offs => match st with
    | .int x :: r => K (jt pc (swt d lo hi offs x.toInt)) lv r σ
    | _ => False
  | .lookupswitch d ps => match st with
    | .int x :: r => K (jt pc (Op.lookupswitch.offset ps.toList d x.toInt)) lv r σ
    | _ => False
  | .getfield i => match fres oc i, st with
    | some (ci, k, _), .ref a :: r => ∃ (fs : List Value) (v : Value), cel z b L xs σ a = some (oB ci fs) ∧ fs[k]? = some v ∧ K (pc + 3) lv (v :: r) σ
    | _, _ => False
  | .putfield i => match fres oc i, st with
    | some (ci, k, _), v :: .ref a :: r => ∃ fs : List Value, cel z b L xs σ a = some (oB ci fs) ∧ k < fs.length ∧ fitV ((fTy.getD ci []).getD k .int) v ∧ K (pc + 3) lv r (upc z σ a (oB ci (fs.set k v)))
    | _, _ => False
  | .iaload => match st with
    | .int i :: .ref a :: r => ∃ (n : Nat) (f : Nat → Int32), cel z b L xs σ a = some (aI n f) ∧ vp_in i n ∧ K (pc + 1) lv (.int (f i.toNatClampNeg) :: r) σ
    | _ => False
  | .laload => match st with
    | .int i :: .ref a :: r => ∃ (n : Nat) (f : Nat → Int64), cel z b L xs σ a = some (aJ n f) ∧ vp_in i n ∧ K (pc + 1) lv (.long (f i.toNatClampNeg) :: r) σ
    | _ => False
  | .baload => match st with
    | .int i :: .ref a :: r => ∃ (n : Nat) (f : Nat → Int32), (cel z b L xs σ a = some (aB n f) ∨ cel z b L xs σ a = some (aZ n f)) ∧ vp_in i n ∧ K (pc + 1) lv (.int (f i.toNatClampNeg) :: r) σ
    | _ => False
  | .aaload => match st with
    | .int i :: .ref a :: r => ∃ (t n : Nat) (f : Nat → Option Nat), cel z b L xs σ a = some (aR t n f) ∧ (t = 4 ∨ t = 5) ∧ vp_in i n ∧ K (pc + 1) lv (va_rf (f i.toNatClampNeg) :: r) σ
    | _ => False
  | .iastore => match st with
    | .int x :: .int i :: .ref a :: r => ∃ (n : Nat) (f : Nat → Int32), cel z b L xs σ a = some (aI n f) ∧ z ≤ a ∧ vp_in i n ∧ K (pc + 1) lv r (upc z σ a (aI n (upd f i.toNatClampNeg x)))
    | _ => False
  | .lastore => match st with
    | .long x :: .int i :: .ref a :: r => ∃ (n : Nat) (f : Nat → Int64), cel z b L xs σ a = some (aJ n f) ∧ vp_in i n ∧ K (pc + 1) lv r (upc z σ a (aJ n (vp_updL f i.toNatClampNeg x)))
    | _ => False
  | .bastore => match st with
    | .int x :: .int i :: .ref a :: r => ∃ (n : Nat) (f : Nat → Int32), vp_in i n ∧ ((cel z b L xs σ a = some (aB n f) ∧ K (pc + 1) lv r (upc z σ a (aB n (upd f i.toNatClampNeg (vp_nar .byte x))))) ∨ (cel z b L xs σ a = some (aZ n f) ∧ K (pc + 1) lv r (upc z σ a (aZ n (upd f i.toNatClampNeg (vp_nar .boolean x))))))
    | _ => False
  | .aastore => match st with
    | .ref v :: .int i :: .ref a :: r => ∃ (t n : Nat) (f : Nat → Option Nat) (fs : List Value), cel z b L xs σ a = some (aR t n f) ∧ vp_in i n ∧ ((t = 4 ∧ cel z b L xs σ v = some (oB 7 fs)) ∨ (t = 5 ∧ cel z b L xs σ v = some (oB 6 fs))) ∧ K (pc + 1) lv r (upc z σ a (aR t n (va_up f i.toNatClampNeg (some v))))
    | .null :: .int i :: .ref a :: r => ∃ (t n : Nat) (f : Nat → Option Nat), cel z b L xs σ a = some (aR t n f) ∧ (t = 4 ∨ t = 5) ∧ vp_in i n ∧ K (pc + 1) lv r (upc z σ a (aR t n (va_up f i.toNatClampNeg none)))
    | _ => False
  | .arraylength => match st with
    | .ref a :: r => ∃ (t n : Nat) (x : (Nat → Int32) ⊕ (Nat → Int64) ⊕ (Nat → UInt32) ⊕ (Nat → UInt64) ⊕ (Nat → Option Nat)), cel z b L xs σ a = some (.inl (t, n, x)) ∧ t < 6 ∧ K (pc + 1) lv (.int (Int32.ofNat n) :: r) σ
    | _ => False
  | .newarray t => match st with
    | .int n :: r => ¬ n < 0 ∧ n.toNatClampNeg ≤ 80000 ∧ match t with
      | .int => K (pc + 2) lv (.ref (z + σ.length) :: r) (σ ++ [aI n.toNatClampNeg (fun _ => 0)])
      | .long => K (pc + 2) lv (.ref (z + σ.length) :: r) (σ ++ [aJ n.toNatClampNeg (fun _ => 0)])
      | .byte => K (pc + 2) lv (.ref (z + σ.length) :: r) (σ ++ [aB n.toNatClampNeg (fun _ => 0)])
      | .boolean => K (pc + 2) lv (.ref (z + σ.length) :: r) (σ ++ [aZ n.toNatClampNeg (fun _ => 0)])
      | _ => False
    | _ => False
  | .anewarray i => match qres oc i, st with
    | some (t, _), .int n :: r => ¬ n < 0 ∧ n.toNatClampNeg ≤ 80000 ∧ K (pc + 3) lv (.ref (z + σ.length) :: r) (σ ++ [aR t n.toNatClampNeg (fun _ => none)])
    | _, _ => False
  | .new i => match cres oc i with
    | some (ci, _) => K (pc + 3) lv (.ref (z + σ.length) :: st) (σ ++ [oB ci (dfl.getD ci [])])
    | none => False
  | .ireturn => match st, rt with
    | [.int x], some ty => fitV ty (.int x) ∧ Qr (some (.int x)) σ
    | _, _ => False
  | .lreturn => match st, rt with
    | [.long x], some .long => Qr (some (.long x)) σ
    | _, _ => False
  | .areturn => match st, rt with
    | [.null], some (.object _) => Qr (some .null) σ
    | [.ref a], some (.object _) => Qr (some (.ref a)) σ
    | _, _ => False
  | .return_ => match st, rt with
    | [], none => Qr none σ
    | _, _ => False
  | .invokevirtual i => match mres oc i with
    | some (0, j, _) => match prog[j]? with
      | some md => ∃ (a : Nat) (fs : List Value) (v : Option Value) (σ1 : Hp), st[md.2.2.2.2.1]? = some (.ref a) ∧ cel z b L xs σ a = some (oB md.2.2.2.2.2.1 fs) ∧ wgt (st.drop (md.2.2.2.2.1 + 1)) ≤ 8 ∧ C j (.ref a :: (st.take md.2.2.2.2.1).reverse) σ v σ1 ∧ K (pc + 3) lv (v.toList ++ st.drop (md.2.2.2.2.1 + 1)) σ1
      | none => False
    | _ => False
  | .invokestatic i => match mres oc i with
    | some (7, _, _) => match st with
      | .int n :: .int dp :: .ref a1 :: .int sp :: .ref a0 :: r => wgt r ≤ 8 ∧ ¬ sp < 0 ∧ ¬ dp < 0 ∧ ¬ n < 0 ∧
          ((∃ (n0 n1 : Nat) (f g : Nat → Int32), cel z b L xs σ a0 = some (aB n0 f) ∧ cel z b L xs σ a1 = some (aB n1 g) ∧ sp.toNatClampNeg + n.toNatClampNeg ≤ n0 ∧ dp.toNatClampNeg + n.toNatClampNeg ≤ n1 ∧ (∀ i, i < n.toNatClampNeg → fits .byte (.int (f (sp.toNatClampNeg + i))) = true) ∧ K (pc + 3) lv r (upc z σ a1 (aB n1 (va_cpy f g sp.toNatClampNeg dp.toNatClampNeg n.toNatClampNeg)))) ∨
           (∃ (n0 n1 : Nat) (f g : Nat → Int64), cel z b L xs σ a0 = some (aJ n0 f) ∧ cel z b L xs σ a1 = some (aJ n1 g) ∧ sp.toNatClampNeg + n.toNatClampNeg ≤ n0 ∧ dp.toNatClampNeg + n.toNatClampNeg ≤ n1 ∧ K (pc + 3) lv r (upc z σ a1 (aJ n1 (va_cpy f g sp.toNatClampNeg dp.toNatClampNeg n.toNatClampNeg)))))
      | _ => False
    | some (8, _, _) => match st with
      | .int y :: .int x :: r => wgt r ≤ 8 ∧ K (pc + 3) lv (.int (if x < y then y else x) :: r) σ
      | _ => False
    | some (9, _, _) => match st with
      | .int y :: .int x :: r => wgt r ≤ 8 ∧ K (pc + 3) lv (.int (if y < x then y else x) :: r) σ
      | _ => False
    | some (k, j, _) => (k = 1 ∨ k = 4) ∧ match prog[j]? with
      | some md => ∃ (v : Option Value) (σ1 : Hp), md.2.2.2.2.1 ≤ st.length ∧ wgt (st.drop md.2.2.2.2.1) ≤ 8 ∧ C j (st.take md.2.2.2.2.1).reverse σ v σ1 ∧ K (pc + 3) lv (v.toList ++ st.drop md.2.2.2.2.1) σ1
      | none => False
    | none => False
  | .invokespecial i => match mres oc i with
    | some (6, _, _) => match st with
      | .ref _ :: r => wgt r ≤ 8 ∧ K (pc + 3) lv r σ
      | _ => False
    | some (k, j, _) => (k = 2 ∨ k = 5) ∧ match prog[j]? with
      | some md => ∃ (a : Nat) (v : Option Value) (σ1 : Hp), st[md.2.2.2.2.1]? = some (.ref a) ∧ wgt (st.drop (md.2.2.2.2.1 + 1)) ≤ 8 ∧ C j (.ref a :: (st.take md.2.2.2.2.1).reverse) σ v σ1 ∧ K (pc + 3) lv (v.toList ++ st.drop (md.2.2.2.2.1 + 1)) σ1
      | none => False
    | none => False
  | _ => False
/-- instructions one by one, n at the most -/
def wp (z b L : Nat) (xs : Nat → Int32) (C : Crel) (t : List (Nat × Instr × Nat)) (oc : Nat) (rt : Option FieldType) (Qr : Option Value → Hp → Prop) : Nat → Nat → Lv → List Value → Hp → Prop
  | 0, _, _, _, _ => False
  | n + 1, pc, lv, st, σ => match t.lookup pc with
    | some q => ins z b L xs C oc rt Qr (wp z b L xs C t oc rt Qr n) pc lv st σ q.1
    | none => False
/-- a call that goes d deep at the most -/
def Cal (z b L : Nat) (xs : Nat → Int32) : Nat → Crel
  | 0, _, _, _, _, _ => False
  | d + 1, j, av, σ, v, σ1 => match prog[j]? with
    | some md => (lg_sl av).length ≤ md.2.2.1 ∧ ∃ n, wp z b L xs (Cal z b L xs d) md.2.2.2.2.2.2.2 md.2.2.2.2.2.1 md.2.2.2.1 (fun v' σ' => v' = v ∧ σ' = σ1) n 0 (lv_args 0 av) [] σ
    | none => False
