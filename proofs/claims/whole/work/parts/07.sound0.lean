/-! ===== the engine's heap as a world of the kit ===== -/
def trE (ar : Nat → ClassId) : va_E → va_E
  | .inl x => .inl (ar x.1, x.2)
  | .inr o => .inr o
def wz (ar : Nat → ClassId) : Nat → Hp → va_W
  | _, [] => []
  | z, e :: l => (z, trE ar e) :: wz ar (z + 1) l
theorem wz_get (ar : Nat → ClassId) : ∀ (z : Nat) (σ : Hp) (k : Nat), (wz ar z σ)[k]? = (σ[k]?).map (fun e => (z + k, trE ar e))
  | _, [], k => by simp [wz]
  | z, e :: l, 0 => by simp [wz]
  | z, e :: l, k + 1 => by
    rw [wz, List.getElem?_cons_succ, List.getElem?_cons_succ, wz_get ar (z + 1) l k]
    congr 1
    funext x
    rw [show z + 1 + k = z + (k + 1) by omega]
theorem wz_set (ar : Nat → ClassId) (e : va_E) : ∀ (z : Nat) (σ : Hp) (k : Nat), (wz ar z σ).set k (z + k, trE ar e) = wz ar z (σ.set k e)
  | _, [], k => by simp [wz]
  | z, x :: l, 0 => by simp [wz]
  | z, x :: l, k + 1 => by
    rw [wz, List.set_cons_succ, List.set_cons_succ, wz, ← wz_set ar e (z + 1) l k, show z + 1 + k = z + (k + 1) by omega]
theorem wz_app (ar : Nat → ClassId) (e : va_E) : ∀ (z : Nat) (σ : Hp), wz ar z (σ ++ [e]) = wz ar z σ ++ [(z + σ.length, trE ar e)]
  | z, [] => by simp [wz]
  | z, x :: l => by
    rw [List.cons_append, wz, wz, wz_app ar e (z + 1) l, List.cons_append, List.length_cons, show z + 1 + l.length = z + (l.length + 1) by omega]
theorem wz_D (ar : Nat → ClassId) (z : Nat) (σ : Hp) : va_D (fun q : Nat => z ≤ q) (wz ar z σ) := by
  refine ⟨fun i j p q hi hj hpq => ?_, fun k q hk => ?_⟩
  · rw [wz_get] at hi hj
    obtain ⟨x, -, rfl⟩ := Option.map_eq_some_iff.mp hi
    obtain ⟨y, -, rfl⟩ := Option.map_eq_some_iff.mp hj
    have h : z + i = z + j := hpq
    omega
  · rw [wz_get] at hk
    obtain ⟨x, -, rfl⟩ := Option.map_eq_some_iff.mp hk
    show z ≤ z + k
    omega
theorem cel_own {z b L : Nat} {xs : Nat → Int32} {σ : Hp} {a : Nat} {e : va_E} (h : cel z b L xs σ a = some e) (ha : z ≤ a) : σ[a - z]? = some e := by
  unfold cel at h
  rw [if_pos ha] at h
  exact h
theorem cel_ge {z b L : Nat} {xs : Nat → Int32} {σ : Hp} {a : Nat} {e : va_E} (h : cel z b L xs σ a = some e) (he : ∀ n f, aI n f ≠ e) : z ≤ a := by
  unfold cel at h
  by_cases ha : z ≤ a
  · exact ha
  · rw [if_neg ha] at h
    split at h
    · exact absurd (Option.some.inj h) (he _ _)
    · cases h
theorem cel_lo {z b L : Nat} {xs : Nat → Int32} {σ : Hp} {a : Nat} {e : va_E} (h : cel z b L xs σ a = some e) (ha : ¬ z ≤ a) : a = b ∧ e = aI L xs := by
  unfold cel at h
  rw [if_neg ha] at h
  split at h
  · rename_i q
    exact ⟨q, (Option.some.inj h).symm⟩
  · cases h
theorem wz_cel {ar : Nat → ClassId} {z : Nat} {σ : Hp} {a : Nat} {e : va_E} (h : σ[a - z]? = some e) (ha : z ≤ a) : (wz ar z σ)[a - z]? = some (a, trE ar e) := by
  rw [wz_get, h]
  show some (z + (a - z), _) = _
  rw [show z + (a - z) = a by omega]
theorem wz_upc {ar : Nat → ClassId} {z : Nat} {σ : Hp} {a : Nat} (e : va_E) (ha : z ≤ a) : (wz ar z σ).set (a - z) (a, trE ar e) = wz ar z (upc z σ a e) := by
  have h := wz_set ar e z σ (a - z)
  rw [show z + (a - z) = a by omega] at h
  exact h
/-- nothing goes; no cell gets less -/
def gw (σ σ1 : Hp) : Prop := σ.length ≤ σ1.length ∧ szH σ ≤ szH σ1
theorem gw.rf (σ : Hp) : gw σ σ := ⟨Nat.le_refl _, Nat.le_refl _⟩
theorem gw.tr {σ σ1 σ2 : Hp} (h : gw σ σ1) (h1 : gw σ1 σ2) : gw σ σ2 := ⟨Nat.le_trans h.1 h1.1, Nat.le_trans h.2 h1.2⟩
theorem szH_app (σ : Hp) (e : va_E) : szH (σ ++ [e]) = szH σ + esz e := by simp [szH]
theorem gw_app (σ : Hp) (e : va_E) : gw σ (σ ++ [e]) := ⟨by simp, by rw [szH_app]; omega⟩
theorem szH_set {e0 e : va_E} (he : esz e = esz e0) : ∀ (σ : Hp) (k : Nat), σ[k]? = some e0 → szH (σ.set k e) = szH σ
  | [], k, h => by simp at h
  | x :: l, 0, h => by
    simp at h
    subst h
    simp [szH, he]
  | x :: l, k + 1, h => by
    have h1 := szH_set he l k (by simpa using h)
    simp only [szH, List.set_cons_succ, List.map_cons, List.sum_cons] at h1 ⊢
    omega
theorem upc_len (z : Nat) (σ : Hp) (a : Nat) (e : va_E) : (upc z σ a e).length = σ.length := by simp [upc]
theorem szH_upc {z : Nat} {σ : Hp} {a : Nat} {e0 e : va_E} (h : σ[a - z]? = some e0) (he : esz e = esz e0) : szH (upc z σ a e) = szH σ := szH_set he σ _ h
theorem gw_upc {z : Nat} {σ : Hp} {a : Nat} {e0 e : va_E} (h : σ[a - z]? = some e0) (he : esz e = esz e0) : gw σ (upc z σ a e) := ⟨by rw [upc_len]; exact Nat.le_refl _, by rw [szH_upc h he]; exact Nat.le_refl _⟩
/-- the array classes -/
def tyL (ar : Nat → ClassId) : List (ClassId × FieldType) := [(ar 0, .int), (ar 1, .long), (ar 2, .byte), (ar 3, .boolean), (ar 4, .object RX7), (ar 5, .object RX6)]
/-- what the tables say, of a state -/
def KS (D : va_G) (ar : Nat → ClassId) (scr : Cell) (U : State) : Prop := va_K D vwCl (tyL ar) U ∧ (∀ q ∈ nest, va_Nw q.2 U) ∧ va_AO RX7 U ∧ va_AO RX6 U ∧ U.isArrayOf scr .int
/-- what a heap holds -/
def WH (D : va_G) (ar : Nat → ClassId) (z b : Nat) (scr : Cell) (σ : Hp) (H : Heap) : Prop := va_P D vwCl (wz ar z σ) H ∧ H.size = z + σ.length ∧ H[b]? = some scr
theorem nest_form : ∀ q ∈ nest, ∃ (a : String) (i : Nat) (x : MethodName) (h : String), q.2 = .methodLinkNest a i x h := by
  intro q hq
  simp only [nest, List.mem_cons, List.not_mem_nil, or_false] at hq
  rcases hq with rfl | rfl | rfl | rfl | rfl | rfl <;> exact ⟨_, _, _, _, rfl⟩
theorem KS.warm {D : va_G} {ar : Nat → ClassId} {scr : Cell} {s U : State} (hW : s.WarmedH U.vm) (h : KS D ar scr s) : KS D ar scr U := by
  refine ⟨va_K.moved hW.alike h.1, fun q hq => ?_, h.2.2.1.moved hW.alike, h.2.2.2.1.moved hW.alike, State.isArrayOf_alike hW.alike h.2.2.2.2⟩
  obtain ⟨a, i, x, hh, e⟩ := nest_form q hq
  have h1 := h.2.1 q hq
  rw [e] at h1 ⊢
  exact va_Nw.warmM hW h1
theorem KS.call {D : va_G} {ar : Nat → ClassId} {scr : Cell} {U : State} (g : JFrame) (mk : MethodId) (a : Array Value) (h : KS D ar scr U) : KS D ar scr (U.calling g mk a) := by
  refine ⟨va_K.moved (u := U) (U := U.calling g mk a) (Vm.Alike.refl U.vm) h.1, fun q hq => ?_, h.2.2.1.moved (u := U) (U := U.calling g mk a) (Vm.Alike.refl U.vm), h.2.2.2.1.moved (u := U) (U := U.calling g mk a) (Vm.Alike.refl U.vm), State.isArrayOf_alike (Vm.Alike.refl U.vm) h.2.2.2.2⟩
  obtain ⟨b, i, x, hh, e⟩ := nest_form q hq
  have h1 := h.2.1 q hq
  rw [e] at h1 ⊢
  exact va_Nw.same rfl (u := U) rfl h1
def rmD (d mc ms : Nat) : Room := { frames := d, cells := mc, slots := ms, locals := 38 * d }
def wsM (md : MD) : List Cond := Cond.code md.1 md.2.1 md.2.2.1 md.2.2.2.1 :: gt
def PX (D : va_G) (ar : Nat → ClassId) (z b : Nat) (scr : Cell) (av : List Value) (σ : Hp) : Array Value → State → Prop := va_Pc av (fun U => WH D ar z b scr σ U.heap ∧ KS D ar scr U)
def QX (D : va_G) (ar : Nat → ClassId) (z b : Nat) (scr : Cell) (v : Option Value) (σ1 : Hp) : Array Value → State → Outcome → State → Prop := fun _ st oc t => (oc = .returned v ∧ WH D ar z b scr σ1 t.heap) ∧ va_F (fun q : Nat => z ≤ q) st t
/-- a method's contract at one start -/
def Ct (l : Launch) (D : va_G) (ar : Nat → ClassId) (z b : Nat) (scr : Cell) (d : Nat) (md : MD) (av : List Value) (σ : Hp) (v : Option Value) (σ1 : Hp) : Prop :=
  Met l md.1 (wsM md) (rmD d (σ1.length - σ.length) (szH σ1 - szH σ)) (PX D ar z b scr av σ) (QX D ar z b scr v σ1) (σ1.length - σ.length) (szH σ1 - szH σ) (fun q : Nat => z ≤ q)

theorem gt_good : ∀ w ∈ gt, (w.onTables && w.keeps) = true ∨ ∃ ty, w = .arrayClass ty := fun w h => good_of_word (List.mem_filter.mp h).2
theorem md_code {md : MD} (h : okMD md = true) : Cond.code md.1 md.2.1 md.2.2.1 md.2.2.2.1 ∈ gt ∧ Cond.initialized md.1.cls ∈ gt ∧ (md.1.cls ≠ "java/lang/invoke/MethodHandle" ∧ md.1.cls ≠ "java/lang/invoke/VarHandle" ∧ (parseMethodDescriptor md.1.desc).map (fun d => d.parameters.length) = some md.2.2.2.2.1) ∧ md.2.2.1 ≤ 19 ∧ plainName md.1.cls = true ∧ cN[md.2.2.2.2.2.1]? = some md.1.cls ∧ okT md.2.1 md.2.2.1 md.2.2.2.2.2.1 (decide (md.1.name = "<init>")) md.2.2.2.2.2.2.2 = true := by
  simp only [okMD, okM0, Bool.and_eq_true, decide_eq_true_eq] at h
  obtain ⟨⟨⟨⟨⟨⟨⟨⟨h1, h2⟩, h3⟩, h4⟩, h5⟩, h6⟩, h7⟩, h8⟩, h9⟩ := h
  exact ⟨wg_in h1, wg_in h2, ⟨h3, h4, h5⟩, h6, h7, h8, h9⟩
theorem wsM_good {Ts : List Cond} {md : MD} (hg : ∀ w ∈ gt, w ∈ Ts) (h : okMD md = true) : GoodIn Ts (wsM md) := by
  intro w hw
  rcases List.mem_cons.mp hw with rfl | hw
  · exact ⟨hg _ (md_code h).1, gt_good _ (md_code h).1⟩
  · exact ⟨hg _ hw, gt_good _ hw⟩
theorem fres_sp {oc i ci k ix : Nat} {own : String} (hc : cN[oc]? = some own) (h : fres oc i = some (ci, k, ix)) : ∃ r : vw_C, vwCl[ci]? = some r ∧ k < r.2.2 ∧ Cond.fieldLink own i (r.2.1 k).1 (r.2.1 k).2.1 (r.2.1 k).2.2.1 ∈ gt := by
  have h1 := fres_ok h
  simp only [okF, hc] at h1
  split at h1
  · rename_i o r e1 e2
    cases e1
    simp only [Bool.and_eq_true, decide_eq_true_eq] at h1
    exact ⟨r, e2, h1.1, wg_in h1.2⟩
  · cases h1
theorem fitV_ok {ty : FieldType} {v : Value} (h : fitV ty v) : narrow ty v = v ∧ fits ty v = true := by
  cases ty <;> cases v <;> first | exact False.elim h | exact ⟨rfl, rfl⟩ | skip
  rcases h with rfl | rfl <;> exact ⟨by decide +kernel, by decide +kernel⟩
