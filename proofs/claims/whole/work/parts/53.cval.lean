/-! ===== the class: values ===== -/
theorem msk_eq (x : Int32) : (x.toInt64 &&& 4294967295).toBitVec = x.toBitVec.setWidth 64 := by
  have h : (x.toInt64 &&& 4294967295).toBitVec = x.toBitVec.signExtend 64 &&& BitVec.ofNat 64 (2 ^ 32 - 1) := rfl
  rw [h]
  apply BitVec.eq_of_getLsbD_eq
  intro i hi
  rw [BitVec.getLsbD_and, BitVec.getLsbD_signExtend, BitVec.getLsbD_ofNat, Nat.testBit_two_pow_sub_one, BitVec.getLsbD_setWidth]
  by_cases h32 : i < 32
  · simp [hi, h32]
  · have : x.toBitVec.getLsbD i = false := BitVec.getLsbD_of_ge _ _ (by omega)
    simp [hi, h32, this]
theorem pkv_nat {k : Nat} (hk : k < 4) (x : Int32) : (pkv (nI k) x).toBitVec.toNat = k * 2 ^ 32 + x.toBitVec.toNat := by
  have hx : x.toBitVec.toNat < 2 ^ 32 := x.toBitVec.isLt
  have e : (pkv (nI k) x).toBitVec = ((nI k).toInt64 <<< ((nI 32).toInt64 &&& 63)).toBitVec ||| (x.toInt64 &&& 4294967295).toBitVec := rfl
  have ek : ((nI k).toInt64 <<< ((nI 32).toInt64 &&& 63)).toBitVec.toNat = k <<< 32 := by
    have : k = 0 ∨ k = 1 ∨ k = 2 ∨ k = 3 := by omega
    rcases this with rfl | rfl | rfl | rfl <;> decide
  rw [e, BitVec.toNat_or, ek, msk_eq, BitVec.toNat_setWidth, Nat.mod_eq_of_lt (by omega), ← Nat.shiftLeft_add_eq_or_of_lt hx, Nat.shiftLeft_eq]
theorem pkv_num {k : Nat} (hk : k < 4) (x : Int32) : (pkv (nI k) x).toInt32 = x := by
  apply Int32.toBitVec_inj.mp
  apply BitVec.eq_of_toNat_eq
  show ((pkv (nI k) x).toBitVec.signExtend 32).toNat = _
  rw [BitVec.signExtend_eq_setWidth_of_le _ (by omega), BitVec.toNat_setWidth, pkv_nat hk]
  have hx : x.toBitVec.toNat < 2 ^ 32 := x.toBitVec.isLt
  omega
def ush (v : Int64) : Int64 := (v.toUInt64 >>> ((nI 32).toInt64.toUInt64 &&& Int64.toUInt64 63)).toInt64
theorem pkv_ush {k : Nat} (hk : k < 4) (x : Int32) : ush (pkv (nI k) x) = Int64.ofNat k := by
  apply Int64.toBitVec_inj.mp
  apply BitVec.eq_of_toNat_eq
  have e : (ush (pkv (nI k) x)).toBitVec = (pkv (nI k) x).toBitVec >>> (32 : Nat) := by
    show ((pkv (nI k) x).toUInt64 >>> ((nI 32).toInt64.toUInt64 &&& Int64.toUInt64 63)).toBitVec = _
    rw [UInt64.toBitVec_shiftRight]
    rfl
  rw [e, BitVec.toNat_ushiftRight, pkv_nat hk, Nat.shiftRight_eq_div_pow]
  have hx : x.toBitVec.toNat < 2 ^ 32 := x.toBitVec.isLt
  have : (k * 2 ^ 32 + x.toBitVec.toNat) / 2 ^ 32 = k := by omega
  rw [this]
  have : k = 0 ∨ k = 1 ∨ k = 2 ∨ k = 3 := by omega
  rcases this with rfl | rfl | rfl | rfl <;> decide
theorem pkv_knd {k : Nat} (hk : k < 4) (x : Int32) : knd (pkv (nI k) x) = nI k := by
  have e : knd (pkv (nI k) x) = (ush (pkv (nI k) x)).toInt32 := rfl
  rw [e, pkv_ush hk]
  have : k = 0 ∨ k = 1 ∨ k = 2 ∨ k = 3 := by omega
  rcases this with rfl | rfl | rfl | rfl <;> decide
theorem pkv_inj {k k' : Nat} (hk : k < 4) (hk' : k' < 4) {x x' : Int32} (h : pkv (nI k) x = pkv (nI k') x') : k = k' ∧ x = x' := by
  have h1 := pkv_knd hk x
  rw [h, pkv_knd hk'] at h1
  have h2 := pkv_num hk x
  rw [h, pkv_num hk'] at h2
  exact ⟨((nI_eq (by omega) (by omega)).mp h1).symm, h2.symm⟩
theorem pkv_00 : pkv (nI 0) (nI 0) = 0 := by decide
/-- a value of the reference, as the class has it: r gives an object's index for its place -/
def vl (r : Nat → Nat) (k x : Int32) : Int64 := pkv k (if k = nI 2 then nI (r x.toNatClampNeg) else x)
section
variable {X : Ev} {d : Nat} {t : List (Nat × Instr × Nat)} {oc : Nat} {rt : Option FieldType} {Qr : Option Value → CS → Prop} {pc : Nat} {lv : Lv} {r : List Value} {S : CS} {len : Nat}
theorem C_ifT {c : ClassFile.Cond} {f : Int} {x : Int32} {pc' : Nat} (h : t.lookup pc = some (.ifCond c f, len)) (hp : jt pc f = pc') (hc : icc c x 0) (k1 : WC X d t oc rt Qr pc' lv r S) : WC X d t oc rt Qr pc lv (.int x :: r) S := C_if h hp (fun _ => k1) (fun q => absurd hc q)
theorem C_ifF {c : ClassFile.Cond} {f : Int} {x : Int32} (h : t.lookup pc = some (.ifCond c f, len)) (hc : ¬ icc c x 0) (k1 : WC X d t oc rt Qr (pc + 3) lv r S) : WC X d t oc rt Qr pc lv (.int x :: r) S := C_if h rfl (fun q => absurd q hc) (fun _ => k1)
theorem C_icT {c : ClassFile.Cond} {f : Int} {x y : Int32} {pc' : Nat} (h : t.lookup pc = some (.if_icmp c f, len)) (hp : jt pc f = pc') (hc : icc c x y) (k1 : WC X d t oc rt Qr pc' lv r S) : WC X d t oc rt Qr pc lv (.int y :: .int x :: r) S := C_icmp h hp (fun _ => k1) (fun q => absurd hc q)
theorem C_icF {c : ClassFile.Cond} {f : Int} {x y : Int32} (h : t.lookup pc = some (.if_icmp c f, len)) (hc : ¬ icc c x y) (k1 : WC X d t oc rt Qr (pc + 3) lv r S) : WC X d t oc rt Qr pc lv (.int y :: .int x :: r) S := C_icmp h rfl (fun q => absurd q hc) (fun _ => k1)
theorem C_sub {lv' : Lv} {st : List Value} (ks : List Nat) (hp : lv_pick lv' ks = lv) (h1 : kdb lv = true) (h2 : kdb lv' = true) (k : WC X d t oc rt Qr pc lv st S) : WC X d t oc rt Qr pc lv' st S := by
  intro σ hσ
  obtain ⟨n, k⟩ := k σ hσ
  exact ⟨n, wp_lv n pc lv lv' st σ (lsb_pick ks hp h1 h2) k⟩
theorem C_aaldR {t0 i a e q p : Nat} {x : Int32} (hnp : xN X < 2 ^ 31) (h : t.lookup pc = some (.aaload, len)) (hk : akd.getD t0 9 = q) (hq : q = 4 ∨ q = 5) (ha : a = cA S t0 i) (he : cE S t0 i = true) (hx : x = nI e) (hl : e < lnt (xN X) t0) (hv : cP S t0 e i = some p) (k : WC X d t oc rt Qr (pc + 1) lv (.ref p :: r) S) : WC X d t oc rt Qr pc lv (.int x :: .ref a :: r) S := C_aald hnp h hk hq ha he hx hl (by rw [hv]; rfl) k
theorem C_aaldN {t0 i a e q : Nat} {x : Int32} (hnp : xN X < 2 ^ 31) (h : t.lookup pc = some (.aaload, len)) (hk : akd.getD t0 9 = q) (hq : q = 4 ∨ q = 5) (ha : a = cA S t0 i) (he : cE S t0 i = true) (hx : x = nI e) (hl : e < lnt (xN X) t0) (hv : cP S t0 e i = none) (k : WC X d t oc rt Qr (pc + 1) lv (.null :: r) S) : WC X d t oc rt Qr pc lv (.int x :: .ref a :: r) S := C_aald hnp h hk hq ha he hx hl (by rw [hv]; rfl) k
theorem WC_eq {st : List Value} {S' : CS} (h : S = S') (k : WC X d t oc rt Qr pc lv st S') : WC X d t oc rt Qr pc lv st S := h ▸ k
end
