/-! ===== the engine is sound: what it finds, the machine does ===== -/
section SND
variable {p : Program} {l : Launch} {e : Env} {R : Room} {s : State} {m : MethodId} {args : Array Value} {below : List Frame} {meth : Method} {c : Code} {Q : State → Prop}
variable {D : va_G} {ar : Nat → ClassId} {z b L : Nat} {xs : Nat → Int32} {scr : Cell}
/-- what is fixed while a method runs -/
def Cx (p : Program) (s : State) (m : MethodId) (args : Array Value) (meth : Method) (c : Code) (D : va_G) (ar : Nat → ClassId) (z b L : Nat) (xs : Nat → Int32) (scr : Cell) (cc : ByteArray) (nL oc : Nat) (Ts : List Cond) (ini : Bool) (σ0 : Hp) : Prop :=
  p.tables.exec = Jvm.exec ∧ c.code = cc ∧ c.maxLocals = nL ∧ (∃ own, cN[oc]? = some own ∧ s.vm.findClass own = some m.cls) ∧ (∀ w ∈ Ts, w.before args s = true) ∧ (∀ w ∈ gt, w ∈ Ts) ∧ KS D ar scr s ∧ (ini = true → meth.name = "<init>") ∧ (scr.vm ≠ .unknown ∧ scr.slots.size = L ∧ ∀ j : Nat, j < L → scr.slots[j]? = some (.int (xs j))) ∧ b < z ∧ s.heap.size = z + σ0.length ∧ s.heap[b]? = some scr
def retI (rt : Option FieldType) (v : Option Value) (st : List Value) : Instr → Prop
  | .ireturn => ∃ (x : Int32) (ty : FieldType), st = [.int x] ∧ rt = some ty ∧ fitV ty (.int x) ∧ v = some (.int x)
  | .lreturn => ∃ x : Int64, st = [.long x] ∧ rt = some .long ∧ v = some (.long x)
  | .areturn => ∃ (w : Value) (n : String), st = [w] ∧ rt = some (.object n) ∧ (w = .null ∨ ∃ a, w = .ref a) ∧ v = some w
  | .return_ => st = [] ∧ rt = none ∧ v = none
  | _ => False
theorem W_size {H : Heap} {locs : List Loc} {cells slots : Nat} {g : JFrame} (h : H.size ≤ s.heap.size + cells → W p l e R s m args below meth c H locs cells slots Q g) : W p l e R s m args below meth c H locs cells slots Q g :=
  fun T hT X => h (by rw [← hT]; exact X.heapSize) T hT X
theorem vS_self {A : Nat → Prop} {H0 H : Heap} {locs : List Loc} (h : va_S A H0 H locs) : va_S A H H locs := ⟨Nat.le_refl _, fun _ _ _ => rfl, h.2.2⟩
theorem vS_tr {A : Nat → Prop} {H0 H H1 : Heap} {locs locs1 : List Loc} (h : va_S A H0 H locs) (h1 : va_S A H H1 locs1) : va_S A H0 H1 locs1 :=
  ⟨Nat.le_trans h.1 h1.1, fun q a1 a2 => (h1.2.1 q (Nat.lt_of_lt_of_le a1 h.1) a2).trans (h.2.1 q a1 a2), h1.2.2⟩
/-- behind a store -/
theorem WH_store {σ σ' σ0 : Hp} {H H1 : Heap} {locs1 : List Loc} {cells : Nat} (hW : WH D ar z b scr σ H) (hS1 : va_S (fun q : Nat => z ≤ q) H H1 locs1) (hP1 : va_P D vwCl (wz ar z σ') H1) (hl : σ'.length = σ.length) (hsz : H1.size ≤ s.heap.size + cells) (e0 : s.heap.size = z + σ0.length) (e1 : σ0.length + cells = σ.length) (hbz : b < z) : WH D ar z b scr σ' H1 := by
  obtain ⟨hP, hs, hb⟩ := hW
  have h1 := hS1.1
  refine ⟨hP1, by omega, ?_⟩
  have h2 : H1[b]? = H[b]? := hS1.2.1 b (by omega) (fun q => by
    have q' : z ≤ b := q
    omega)
  rw [h2]
  exact hb
/-- behind a cell that was made -/
theorem WH_make {σ σ0 : Hp} {x : va_E} {H H1 : Heap} {locs1 : List Loc} {cells q : Nat} (hW : WH D ar z b scr σ H) (hS1 : va_S (fun q : Nat => z ≤ q) H H1 locs1) (hP1 : va_P D vwCl (wz ar z σ ++ [(q, trE ar x)]) H1) (hD1 : va_D (fun q : Nat => z ≤ q) (wz ar z σ ++ [(q, trE ar x)])) (hsz : H1.size ≤ s.heap.size + (cells + 1)) (e0 : s.heap.size = z + σ0.length) (e1 : σ0.length + cells = σ.length) (hbz : b < z) : q = z + σ.length ∧ WH D ar z b scr (σ ++ [x]) H1 := by
  obtain ⟨hP, hs, hb⟩ := hW
  have hlen : (wz ar z σ).length = σ.length := by
    have h1 : ∀ k : Nat, (wz ar z σ)[k]? = none ↔ σ[k]? = none := fun k => by rw [wz_get]; simp
    have h2 := fun k => (List.getElem?_eq_none_iff (l := wz ar z σ) (i := k)).symm.trans ((h1 k).trans List.getElem?_eq_none_iff)
    have a1 := (h2 σ.length).mpr (Nat.le_refl _)
    have a2 := (h2 (wz ar z σ).length).mp (Nat.le_refl _)
    omega
  have hq : (wz ar z σ ++ [(q, trE ar x)])[(wz ar z σ).length]? = some (q, trE ar x) := by simp
  have hlt : q < H1.size := (hP1 _ _ hq).lt
  have hge : z ≤ q := hD1.2 _ _ hq
  have hne : ¬ q < z + σ.length := by
    intro hc
    have hk : q - z < σ.length := by omega
    have h3 : (wz ar z σ ++ [(q, trE ar x)])[q - z]? = some (q, trE ar σ[q - z]) := by
      rw [List.getElem?_append_left (by omega), wz_get, List.getElem?_eq_getElem hk]
      show some (z + (q - z), _) = _
      rw [show z + (q - z) = q by omega]
    have := hD1.1 _ _ _ _ h3 hq rfl
    omega
  have hqe : q = z + σ.length := by omega
  refine ⟨hqe, ?_, ?_, ?_⟩
  · rw [wz_app, ← hqe]
    exact hP1
  · rw [List.length_append, List.length_singleton]
    omega
  · have h2 : H1[b]? = H[b]? := hS1.2.1 b (by omega) (fun q => by
      have q' : z ≤ b := q
      omega)
    rw [h2]
    exact hb
/-- behind a call -/
theorem X_call {σ1 : Hp} {H : Heap} {locs : List Loc} {cells slots mc ms pc : Nat} {ls : Array Slot} {rest st0 : List Value} {v : Option Value} {a : Array Value} (hr : va_Run p l e R s m args below meth c H locs cells slots mc ms (F0 m pc ls st0) rest (QX D ar z b scr v σ1 a) (fun q : Nat => z ≤ q)) (hS : va_S (fun q : Nat => z ≤ q) s.heap H locs)
    (kk : ∀ (H1 : Heap) (locs1 : List Loc), WH D ar z b scr σ1 H1 → va_S (fun q : Nat => z ≤ q) s.heap H1 locs1 → W p l e R s m args below meth c H1 locs1 (cells + mc) (slots + ms) Q (F0 m (pc + 3) ls (v.toList ++ rest))) : W p l e R s m args below meth c H locs cells slots Q (F0 m pc ls st0) := by
  intro T hT X
  obtain ⟨v', st₀, t, T', L', h0, X', hL, e1, e2, ⟨⟨hv, hw⟩, hz, hk⟩, st⟩ := hr T hT X
  cases hv
  rw [h0] at hz hk
  obtain ⟨t2, a1, b1⟩ := kk T'.heap (locs ++ L') (by rw [e1]; exact hw)
    ⟨Nat.le_trans hS.1 (by rw [e1]; exact hz), fun q h1 h2 => by rw [e1, hk q (Nat.lt_of_lt_of_le h1 hS.1) h2]; exact hS.2.1 q h1 h2, fun q hq => by
      rcases List.mem_append.mp hq with h | h
      · exact hS.2.2 q h
      · exact hL q h⟩ T' rfl X'
  exact ⟨t2, st t2 a1, b1⟩
theorem PX_blind {av : List Value} {σ : Hp} : FrameBlind (PX D ar z b scr av σ) := fun a U g mk h => ⟨h.1, h.2.1, h.2.2.call g mk a⟩
theorem PX_S {H : Heap} {σ : Hp} (hK : KS D ar scr s) (hW : WH D ar z b scr σ H) (As : List Value) : PreS s H (PX D ar z b scr As σ) As := ⟨PX_blind, fun U hU hw => ⟨rfl, by rw [hU]; exact hW, hK.warm hw⟩⟩
end SND
theorem ar_eq {s : State} {c1 c2 : ClassId} {ty : FieldType} (h1 : va_RA s c1 ty) (h2 : va_RA s c2 ty) : c1 = c2 := by
  cases ty with
  | object C =>
    obtain ⟨_, _, _, _, _, h4⟩ := h1
    obtain ⟨_, _, _, _, _, h5⟩ := h2
    exact Option.some.inj (h4.symm.trans h5)
  | _ => exact Option.some.inj (Eq.trans (Eq.symm h1) h2)
set_option maxRecDepth 100000 in
theorem wpl_all : Cond.instanceMethod objectInit ∈ gt ∧ Cond.code objectInit ⟨#[0xb1]⟩ 1 none ∈ gt ∧ Cond.native arraycopyName ∈ gt ∧ Cond.static arraycopyName ∈ gt ∧ Cond.initialized "java/lang/System" ∈ gt ∧ Cond.arrayClass .int ∈ gt ∧ Cond.arrayClass .long ∈ gt ∧ Cond.arrayClass .byte ∈ gt ∧ Cond.arrayClass .boolean ∈ gt := by
  have h := wpl_ok
  simp only [Bool.and_eq_true] at h
  obtain ⟨⟨⟨⟨⟨⟨⟨⟨h1, h2⟩, h3⟩, h4⟩, h5⟩, h6⟩, h7⟩, h8⟩, h9⟩ := h
  exact ⟨wg_in h1, wg_in h2, wg_in h3, wg_in h4, wg_in h5, wg_in h6, wg_in h7, wg_in h8, wg_in (of_decide_eq_true h9)⟩
set_option maxRecDepth 100000 in
theorem wpm_all : Cond.static Lib.Math.max.name ∈ gt ∧ Cond.code Lib.Math.max.name Lib.Math.max.code 2 (some .int) ∈ gt ∧ Cond.static Lib.Math.min.name ∈ gt ∧ Cond.code Lib.Math.min.name Lib.Math.min.code 2 (some .int) ∈ gt ∧ Cond.initialized "java/lang/Math" ∈ gt := by
  have h := wpm_ok
  simp only [Bool.and_eq_true] at h
  obtain ⟨⟨⟨⟨h1, h2⟩, h3⟩, h4⟩, h5⟩ := h
  exact ⟨wg_in h1, wg_in h2, wg_in h3, wg_in h4, wg_in h5⟩
theorem st_cut {st : List Value} {n : Nat} {x : Value} (h : st[n]? = some x) : st = (st.take n).reverse.reverse ++ x :: st.drop (n + 1) ∧ (st.take n).reverse.length = n := by
  have hn : n < st.length := (List.getElem?_eq_some_iff.mp h).1
  refine ⟨?_, by rw [List.length_reverse, List.length_take]; omega⟩
  rw [List.reverse_reverse]
  have h1 := (List.take_append_drop n st).symm
  have h2 : st.drop n = x :: st.drop (n + 1) := by
    rw [List.drop_eq_getElem_cons hn]
    congr 1
    exact (List.getElem?_eq_some_iff.mp h).2
  rw [h2] at h1
  exact h1
set_option maxHeartbeats 8000000 in
set_option maxRecDepth 100000 in
/-- a method's walk, from any of its states -/
theorem snd {p : Program} {l : Launch} {e : Env} {R : Room} {s : State} {m : MethodId} {args : Array Value} {below : List Frame} {meth : Method} {c : Code} {Q : State → Prop}
    {D : va_G} {ar : Nat → ClassId} {z b L : Nat} {xs : Nat → Int32} {scr : Cell} {cc : ByteArray} {nL oc d : Nat} {Ts : List Cond} {ini : Bool} {σ0 : Hp} {t : List (Nat × Instr × Nat)} {rt : Option FieldType} {C : Crel} {Qr : Option Value → Hp → Prop}
    (hpg : ∀ md ∈ prog, okMD md = true) (X : Cx p s m args meth c D ar z b L xs scr cc nL oc Ts ini σ0) (hT : okT cc nL oc ini t = true)
    (hC : ∀ j md av σ v σ1, prog[j]? = some md → C j av σ v σ1 → Ct l D ar z b scr d md av σ v σ1) (hCg : ∀ j av σ v σ1, C j av σ v σ1 → gw σ σ1) (hRf : d + 1 ≤ R.frames) (hRl : 38 * d + 38 ≤ R.locals)
    (hQ : ∀ v σ1, Qr v σ1 → σ1.length ≤ σ0.length + R.cells ∧ szH σ1 ≤ szH σ0 + R.slots)
    (hret : ∀ (v : Option Value) (σ1 : Hp) (H : Heap) (locs : List Loc) (cells slots pc : Nat) (ls : Array Slot) (st : List Value) (i : Instr), Qr v σ1 → retI rt v st i → decode cc pc = .ok (i, 1) → WH D ar z b scr σ1 H → va_S (fun q : Nat => z ≤ q) s.heap H locs → σ0.length + cells = σ1.length → szH σ0 + slots = szH σ1 → W p l e R s m args below meth c H locs cells slots Q (F0 m pc ls st)) :
    ∀ (n pc : Nat) (lv : Lv) (st : List Value) (σ : Hp) (H : Heap) (locs : List Loc) (cells slots : Nat) (ls : Array Slot), wp z b L xs C t oc rt Qr n pc lv st σ → lv_has ls nL lv → WH D ar z b scr σ H → va_S (fun q : Nat => z ≤ q) s.heap H locs → σ0.length + cells = σ.length → szH σ0 + slots = szH σ → W p l e R s m args below meth c H locs cells slots Q (F0 m pc ls st) := by
  obtain ⟨hx, hb, hml, ⟨own, hcN, hown⟩, hts, hgt, hK, hini, ⟨hscr1, hscr2, hscr3⟩, hbz, e0, hsb⟩ := id X
  have hbA : ¬ (fun q : Nat => z ≤ q) b := fun q => by
    have q' : z ≤ b := q
    omega
  have hbl : b < s.heap.size := by omega
  have hX : va_X b L xs s s.heap := ⟨scr, hsb, hK.2.2.2.2, hscr1, hscr2, hscr3⟩
  have hA : ∀ {H : Heap} {locs : List Loc}, va_S (fun q : Nat => z ≤ q) s.heap H locs → ∀ q : Nat, H.size ≤ q → z ≤ q := fun hS q hq => by
    have h1 := hS.1
    omega
  intro n
  induction n with
  | zero =>
    intro pc lv st σ H locs cells slots ls h
    exact h.elim
  | succ n ih =>
    intro pc lv st σ H locs cells slots ls h hl hW hS e1 e2
    simp only [wp] at h
    split at h
    case h_2 => exact h.elim
    rename_i q hq
    have hm := lk_mem hq
    unfold okT at hT
    have hT1 := List.all_eq_true.mp hT _ hm
    simp only [Bool.and_eq_true, decide_eq_true_eq] at hT1
    obtain ⟨⟨hd, hi⟩, hj⟩ := hT1
    obtain ⟨i, len⟩ := q
    dsimp only at h hd hi hj
    have hP := hW.1
    have hD := wz_D ar z σ
    cases i with
    | iconst v =>
      have hn : len = 1 := eq_of_beq hi
      subst hn
      exact lv_iconst hx hb hd rfl (ih _ _ _ _ _ _ _ _ _ h hl hW hS e1 e2)
    | bipush v =>
      have hn : len = 2 := eq_of_beq hi
      subst hn
      exact lv_bipush hx hb hd rfl (ih _ _ _ _ _ _ _ _ _ h hl hW hS e1 e2)
    | sipush v =>
      have hn : len = 3 := eq_of_beq hi
      subst hn
      exact lv_sipush hx hb hd rfl (ih _ _ _ _ _ _ _ _ _ h hl hW hS e1 e2)
    | lconst v =>
      have hn : len = 1 := eq_of_beq hi
      subst hn
      exact lv_lconst hx hb hd rfl (ih _ _ _ _ _ _ _ _ _ h hl hW hS e1 e2)
    | aconst_null =>
      have hn : len = 1 := eq_of_beq hi
      subst hn
      exact lv_null hx hb hd (ih _ _ _ _ _ _ _ _ _ h hl hW hS e1 e2)
    | ldc i =>
      have hn : len = 2 := eq_of_beq hi
      subst hn
      simp only [ins] at h
      split at h
      · rename_i v ix hk
        have h1 := kres_ok hk
        simp only [okI, hcN] at h1
        exact lv_ldc hx hb hown (hts _ (hgt _ (wg_in h1))) hd (ih _ _ _ _ _ _ _ _ _ h hl hW hS e1 e2)
      · exact h.elim
    | ldc2_w i =>
      have hn : len = 3 := eq_of_beq hi
      subst hn
      simp only [ins] at h
      split at h
      · rename_i v ix hk
        have h1 := jres_ok hk
        simp only [okJ, hcN] at h1
        exact lv_ldc2 hx hb hown (hts _ (hgt _ (wg_in h1))) hd (ih _ _ _ _ _ _ _ _ _ h hl hW hS e1 e2)
      · exact h.elim
    | iload_n i =>
      have hn : len = 1 := eq_of_beq hi
      subst hn
      simp only [ins] at h
      split at h
      · rename_i x hk
        exact lv_iload_n hx hb hd rfl (hl.2.2 _ (lk_mem hk)) (ih _ _ _ _ _ _ _ _ _ h hl hW hS e1 e2)
      · exact h.elim
    | iload i =>
      have hn : len = 2 := eq_of_beq hi
      subst hn
      simp only [ins] at h
      split at h
      · rename_i x hk
        exact lv_iload hx hb hd (hl.2.2 _ (lk_mem hk)) (ih _ _ _ _ _ _ _ _ _ h hl hW hS e1 e2)
      · exact h.elim
    | lload_n i =>
      have hn : len = 1 := eq_of_beq hi
      subst hn
      simp only [ins] at h
      split at h
      · rename_i x hk
        exact lv_lload_n hx hb hd rfl (hl.2.2 _ (lk_mem hk)) (ih _ _ _ _ _ _ _ _ _ h hl hW hS e1 e2)
      · exact h.elim
    | lload i =>
      have hn : len = 2 := eq_of_beq hi
      subst hn
      simp only [ins] at h
      split at h
      · rename_i x hk
        exact lv_lload hx hb hd (hl.2.2 _ (lk_mem hk)) (ih _ _ _ _ _ _ _ _ _ h hl hW hS e1 e2)
      · exact h.elim
    | aload_n i =>
      have hn : len = 1 := eq_of_beq hi
      subst hn
      simp only [ins] at h
      split at h
      · rename_i x hk
        exact lv_aload_n hx hb hd rfl (hl.2.2 _ (lk_mem hk)) (ih _ _ _ _ _ _ _ _ _ h hl hW hS e1 e2)
      · rename_i hk
        exact lv_aload_nN hx hb hd rfl (hl.2.2 _ (lk_mem hk)) (ih _ _ _ _ _ _ _ _ _ h hl hW hS e1 e2)
      · exact h.elim
    | aload i =>
      have hn : len = 2 := eq_of_beq hi
      subst hn
      simp only [ins] at h
      split at h
      · rename_i x hk
        exact lv_aload hx hb hd (hl.2.2 _ (lk_mem hk)) (ih _ _ _ _ _ _ _ _ _ h hl hW hS e1 e2)
      · rename_i hk
        exact lv_aloadN hx hb hd (hl.2.2 _ (lk_mem hk)) (ih _ _ _ _ _ _ _ _ _ h hl hW hS e1 e2)
      · exact h.elim
    | istore_n i =>
      have hn : len = 1 := eq_of_beq hi
      subst hn
      simp only [ins] at h
      split at h
      · exact lv_istore_n hx hb hd rfl hl (of_decide_eq_true hj) rfl (fun ls hl => ih _ _ _ _ _ _ _ _ ls h hl hW hS e1 e2)
      · exact h.elim
    | istore i =>
      have hn : len = 2 := eq_of_beq hi
      subst hn
      simp only [ins] at h
      split at h
      · exact lv_istore hx hb hd hl (of_decide_eq_true hj) rfl (fun ls hl => ih _ _ _ _ _ _ _ _ ls h hl hW hS e1 e2)
      · exact h.elim
    | lstore_n i =>
      have hn : len = 1 := eq_of_beq hi
      subst hn
      simp only [ins] at h
      split at h
      · exact lv_lstore_n hx hb hd rfl hl (of_decide_eq_true hj) rfl (fun ls hl => ih _ _ _ _ _ _ _ _ ls h hl hW hS e1 e2)
      · exact h.elim
    | lstore i =>
      have hn : len = 2 := eq_of_beq hi
      subst hn
      simp only [ins] at h
      split at h
      · exact lv_lstore hx hb hd hl (of_decide_eq_true hj) rfl (fun ls hl => ih _ _ _ _ _ _ _ _ ls h hl hW hS e1 e2)
      · exact h.elim
    | astore_n i =>
      have hn : len = 1 := eq_of_beq hi
      subst hn
      simp only [ins] at h
      split at h
      · exact lv_astore_n hx hb hd rfl hl (of_decide_eq_true hj) rfl (fun ls hl => ih _ _ _ _ _ _ _ _ ls h hl hW hS e1 e2)
      · exact lv_astore_nN hx hb hd rfl hl (of_decide_eq_true hj) rfl (fun ls hl => ih _ _ _ _ _ _ _ _ ls h hl hW hS e1 e2)
      · exact h.elim
    | astore i =>
      have hn : len = 2 := eq_of_beq hi
      subst hn
      simp only [ins] at h
      split at h
      · exact lv_astore hx hb hd hl (of_decide_eq_true hj) rfl (fun ls hl => ih _ _ _ _ _ _ _ _ ls h hl hW hS e1 e2)
      · exact lv_astoreN hx hb hd hl (of_decide_eq_true hj) rfl (fun ls hl => ih _ _ _ _ _ _ _ _ ls h hl hW hS e1 e2)
      · exact h.elim
    | iinc i v =>
      have hn : len = 3 := eq_of_beq hi
      subst hn
      simp only [ins] at h
      split at h
      · rename_i x hk
        obtain ⟨q, hq⟩ := List.getElem?_of_mem (lk_mem hk)
        exact lv_iinc hx hb hd hl hq rfl (of_decide_eq_true hj) rfl (fun ls hl => ih _ _ _ _ _ _ _ _ ls h hl hW hS e1 e2)
      · exact h.elim
    | iadd =>
      have hn : len = 1 := eq_of_beq hi
      subst hn
      simp only [ins] at h
      split at h
      · exact lv_iadd hx hb hd (ih _ _ _ _ _ _ _ _ _ h hl hW hS e1 e2)
      · exact h.elim
    | isub =>
      have hn : len = 1 := eq_of_beq hi
      subst hn
      simp only [ins] at h
      split at h
      · exact lv_isub hx hb hd (ih _ _ _ _ _ _ _ _ _ h hl hW hS e1 e2)
      · exact h.elim
    | imul =>
      have hn : len = 1 := eq_of_beq hi
      subst hn
      simp only [ins] at h
      split at h
      · exact lv_imul hx hb hd (ih _ _ _ _ _ _ _ _ _ h hl hW hS e1 e2)
      · exact h.elim
    | iand =>
      have hn : len = 1 := eq_of_beq hi
      subst hn
      simp only [ins] at h
      split at h
      · exact lv_iand hx hb hd (ih _ _ _ _ _ _ _ _ _ h hl hW hS e1 e2)
      · exact h.elim
    | ladd =>
      have hn : len = 1 := eq_of_beq hi
      subst hn
      simp only [ins] at h
      split at h
      · exact lv_ladd hx hb hd (ih _ _ _ _ _ _ _ _ _ h hl hW hS e1 e2)
      · exact h.elim
    | lsub =>
      have hn : len = 1 := eq_of_beq hi
      subst hn
      simp only [ins] at h
      split at h
      · exact lv_lsub hx hb hd (ih _ _ _ _ _ _ _ _ _ h hl hW hS e1 e2)
      · exact h.elim
    | lmul =>
      have hn : len = 1 := eq_of_beq hi
      subst hn
      simp only [ins] at h
      split at h
      · exact lv_lmul hx hb hd (ih _ _ _ _ _ _ _ _ _ h hl hW hS e1 e2)
      · exact h.elim
    | land =>
      have hn : len = 1 := eq_of_beq hi
      subst hn
      simp only [ins] at h
      split at h
      · exact lv_land hx hb hd (ih _ _ _ _ _ _ _ _ _ h hl hW hS e1 e2)
      · exact h.elim
    | lor =>
      have hn : len = 1 := eq_of_beq hi
      subst hn
      simp only [ins] at h
      split at h
      · exact lv_lor hx hb hd (ih _ _ _ _ _ _ _ _ _ h hl hW hS e1 e2)
      · exact h.elim
    | ineg =>
      have hn : len = 1 := eq_of_beq hi
      subst hn
      simp only [ins] at h
      split at h
      · exact lv_ineg hx hb hd (ih _ _ _ _ _ _ _ _ _ h hl hW hS e1 e2)
      · exact h.elim
    | ishr =>
      have hn : len = 1 := eq_of_beq hi
      subst hn
      simp only [ins] at h
      split at h
      · exact lv_ishr hx hb hd (ih _ _ _ _ _ _ _ _ _ h hl hW hS e1 e2)
      · exact h.elim
    | idiv =>
      have hn : len = 1 := eq_of_beq hi
      subst hn
      simp only [ins] at h
      split at h
      · exact lv_idiv hx hb hd h.1 (ih _ _ _ _ _ _ _ _ _ h.2 hl hW hS e1 e2)
      · exact h.elim
    | ldiv =>
      have hn : len = 1 := eq_of_beq hi
      subst hn
      simp only [ins] at h
      split at h
      · exact lv_ldiv hx hb hd h.1 (ih _ _ _ _ _ _ _ _ _ h.2 hl hW hS e1 e2)
      · exact h.elim
    | lrem =>
      have hn : len = 1 := eq_of_beq hi
      subst hn
      simp only [ins] at h
      split at h
      · exact lv_lrem hx hb hd h.1 (ih _ _ _ _ _ _ _ _ _ h.2 hl hW hS e1 e2)
      · exact h.elim
    | lcmp =>
      have hn : len = 1 := eq_of_beq hi
      subst hn
      simp only [ins] at h
      split at h
      · exact W.lcmp hx hb hd (ih _ _ _ _ _ _ _ _ _ h hl hW hS e1 e2)
      · exact h.elim
    | lushr =>
      have hn : len = 1 := eq_of_beq hi
      subst hn
      simp only [ins] at h
      split at h
      · exact lv_lushr hx hb hd rfl (ih _ _ _ _ _ _ _ _ _ h hl hW hS e1 e2)
      · exact h.elim
    | lshl =>
      have hn : len = 1 := eq_of_beq hi
      subst hn
      simp only [ins] at h
      split at h
      · exact lv_lshl hx hb hd rfl (ih _ _ _ _ _ _ _ _ _ h hl hW hS e1 e2)
      · exact h.elim
    | i2l =>
      have hn : len = 1 := eq_of_beq hi
      subst hn
      simp only [ins] at h
      split at h
      · exact lv_i2l hx hb hd rfl (ih _ _ _ _ _ _ _ _ _ h hl hW hS e1 e2)
      · exact h.elim
    | l2i =>
      have hn : len = 1 := eq_of_beq hi
      subst hn
      simp only [ins] at h
      split at h
      · exact lv_l2i hx hb hd rfl (ih _ _ _ _ _ _ _ _ _ h hl hW hS e1 e2)
      · exact h.elim
    | i2b =>
      have hn : len = 1 := eq_of_beq hi
      subst hn
      simp only [ins] at h
      split at h
      · exact lv_i2b hx hb hd rfl (ih _ _ _ _ _ _ _ _ _ h hl hW hS e1 e2)
      · exact h.elim
    | dup =>
      have hn : len = 1 := eq_of_beq hi
      subst hn
      simp only [ins] at h
      split at h
      · exact lv_dup hx hb hd h.1 (ih _ _ _ _ _ _ _ _ _ h.2 hl hW hS e1 e2)
      · exact h.elim
    | pop =>
      have hn : len = 1 := eq_of_beq hi
      subst hn
      simp only [ins] at h
      split at h
      · exact lv_pop hx hb hd h.1 (ih _ _ _ _ _ _ _ _ _ h.2 hl hW hS e1 e2)
      · exact h.elim
    | dup2 =>
      have hn : len = 1 := eq_of_beq hi
      subst hn
      simp only [ins] at h
      split at h
      · exact lv_dup2_11 hx hb hd h.1 h.2.1 (ih _ _ _ _ _ _ _ _ _ h.2.2 hl hW hS e1 e2)
      · exact h.elim
    | goto f =>
      have hn : len = 3 := eq_of_beq hi
      subst hn
      have ht : (pc : Int) + f = ((jt pc f : Nat) : Int) := (Int.toNat_of_nonneg (of_decide_eq_true hj)).symm
      exact lv_goto hx hb hd ht (ih _ _ _ _ _ _ _ _ _ h hl hW hS e1 e2)
    | ifCond cnd f =>
      have hn : len = 3 := eq_of_beq hi
      subst hn
      have ht : (pc : Int) + f = ((jt pc f : Nat) : Int) := (Int.toNat_of_nonneg (of_decide_eq_true hj)).symm
      simp only [ins] at h
      split at h
      · cases cnd with
        | eq => exact lv_if_eq hx hb hd ht (fun q => (ih _ _ _ _ _ _ _ _ _ (h.1 q) hl hW hS e1 e2)) (fun q => (ih _ _ _ _ _ _ _ _ _ (h.2 q) hl hW hS e1 e2))
        | ne => exact lv_if_ne hx hb hd ht (fun q => (ih _ _ _ _ _ _ _ _ _ (h.1 q) hl hW hS e1 e2)) (fun q => (ih _ _ _ _ _ _ _ _ _ (h.2 (fun nq => nq q)) hl hW hS e1 e2))
        | lt => exact lv_if_lt hx hb hd ht (fun q => (ih _ _ _ _ _ _ _ _ _ (h.1 q) hl hW hS e1 e2)) (fun q => (ih _ _ _ _ _ _ _ _ _ (h.2 q) hl hW hS e1 e2))
        | ge => exact lv_if_ge hx hb hd ht (fun q => (ih _ _ _ _ _ _ _ _ _ (h.1 q) hl hW hS e1 e2)) (fun q => (ih _ _ _ _ _ _ _ _ _ (h.2 q) hl hW hS e1 e2))
        | gt => exact lv_if_gt hx hb hd ht (fun q => (ih _ _ _ _ _ _ _ _ _ (h.1 q) hl hW hS e1 e2)) (fun q => (ih _ _ _ _ _ _ _ _ _ (h.2 q) hl hW hS e1 e2))
        | le => exact lv_if_le hx hb hd ht (fun q => (ih _ _ _ _ _ _ _ _ _ (h.1 q) hl hW hS e1 e2)) (fun q => (ih _ _ _ _ _ _ _ _ _ (h.2 q) hl hW hS e1 e2))
      · exact h.elim
    | if_icmp cnd f =>
      have hn : len = 3 := eq_of_beq hi
      subst hn
      have ht : (pc : Int) + f = ((jt pc f : Nat) : Int) := (Int.toNat_of_nonneg (of_decide_eq_true hj)).symm
      simp only [ins] at h
      split at h
      · cases cnd with
        | eq => exact lv_icmp_eq hx hb hd ht (fun q => (ih _ _ _ _ _ _ _ _ _ (h.1 q) hl hW hS e1 e2)) (fun q => (ih _ _ _ _ _ _ _ _ _ (h.2 q) hl hW hS e1 e2))
        | ne => exact lv_icmp_ne hx hb hd ht (fun q => (ih _ _ _ _ _ _ _ _ _ (h.1 q) hl hW hS e1 e2)) (fun q => (ih _ _ _ _ _ _ _ _ _ (h.2 (fun nq => nq q)) hl hW hS e1 e2))
        | lt => exact lv_icmp_lt hx hb hd ht (fun q => (ih _ _ _ _ _ _ _ _ _ (h.1 q) hl hW hS e1 e2)) (fun q => (ih _ _ _ _ _ _ _ _ _ (h.2 q) hl hW hS e1 e2))
        | ge => exact lv_icmp_ge hx hb hd ht (fun q => (ih _ _ _ _ _ _ _ _ _ (h.1 q) hl hW hS e1 e2)) (fun q => (ih _ _ _ _ _ _ _ _ _ (h.2 q) hl hW hS e1 e2))
        | gt => exact lv_icmp_gt hx hb hd ht (fun q => (ih _ _ _ _ _ _ _ _ _ (h.1 q) hl hW hS e1 e2)) (fun q => (ih _ _ _ _ _ _ _ _ _ (h.2 q) hl hW hS e1 e2))
        | le => exact lv_icmp_le hx hb hd ht (fun q => (ih _ _ _ _ _ _ _ _ _ (h.1 q) hl hW hS e1 e2)) (fun q => (ih _ _ _ _ _ _ _ _ _ (h.2 q) hl hW hS e1 e2))
      · exact h.elim
    | ifnull f =>
      have hn : len = 3 := eq_of_beq hi
      subst hn
      have ht : (pc : Int) + f = ((jt pc f : Nat) : Int) := (Int.toNat_of_nonneg (of_decide_eq_true hj)).symm
      simp only [ins] at h
      split at h
      · exact lv_ifnullN hx hb hd ht (ih _ _ _ _ _ _ _ _ _ h hl hW hS e1 e2)
      · exact lv_ifnull hx hb hd (ih _ _ _ _ _ _ _ _ _ h hl hW hS e1 e2)
      · exact h.elim
    | ifnonnull f =>
      have hn : len = 3 := eq_of_beq hi
      subst hn
      have ht : (pc : Int) + f = ((jt pc f : Nat) : Int) := (Int.toNat_of_nonneg (of_decide_eq_true hj)).symm
      simp only [ins] at h
      split at h
      · exact lv_ifnonnullN hx hb hd (ih _ _ _ _ _ _ _ _ _ h hl hW hS e1 e2)
      · exact lv_ifnonnull hx hb hd ht (ih _ _ _ _ _ _ _ _ _ h hl hW hS e1 e2)
      · exact h.elim
    | if_acmp cnd f =>
      have hn : len = 3 := eq_of_beq hi
      subst hn
      have ht : (pc : Int) + f = ((jt pc f : Nat) : Int) := (Int.toNat_of_nonneg (of_decide_eq_true hj)).symm
      simp only [ins] at h
      split at h
      · obtain ⟨rx, ry, rfl, rfl, h⟩ := h
        cases cnd with
        | eq => exact lv_acmp_eq hx hb hd ht (fun q => (ih _ _ _ _ _ _ _ _ _ (h.1 q) hl hW hS e1 e2)) (fun q => (ih _ _ _ _ _ _ _ _ _ (h.2 q) hl hW hS e1 e2))
        | ne => exact lv_acmp_ne hx hb hd ht (fun q => (ih _ _ _ _ _ _ _ _ _ (h.1 q) hl hW hS e1 e2)) (fun q => (ih _ _ _ _ _ _ _ _ _ (h.2 q) hl hW hS e1 e2))
      · exact h.elim
    | tableswitch df lo hh offs =>
      simp only [ins] at h
      split at h
      · rename_i x r
        simp only [iln, Bool.and_eq_true, decide_eq_true_eq] at hi
        simp only [ijp, Bool.and_eq_true, decide_eq_true_eq] at hj
        by_cases hr : x.toInt < lo ∨ hh < x.toInt
        · have hsw : swt df lo hh offs x.toInt = df := if_pos hr
          rw [hsw] at h
          exact lv_tableOut hx hb hd hr (Int.toNat_of_nonneg hj.1).symm (ih _ _ _ _ _ _ _ _ _ h hl hW hS e1 e2)
        · have h1 : ¬ x.toInt < lo := fun q => hr (Or.inl q)
          have h2 : ¬ hh < x.toInt := fun q => hr (Or.inr q)
          have h3 : (x.toInt - lo).toNat < offs.size := by omega
          have hsw : swt df lo hh offs x.toInt = offs[(x.toInt - lo).toNat] := by
            unfold swt
            rw [if_neg hr, Array.getElem?_eq_getElem h3]
            rfl
          rw [hsw] at h
          have h4 := Array.all_eq_true.mp hj.2 _ h3
          exact lv_tableIn hx hb hd h1 h2 (Array.getElem?_eq_getElem h3) (Int.toNat_of_nonneg (of_decide_eq_true h4)).symm (ih _ _ _ _ _ _ _ _ _ h hl hW hS e1 e2)
      · exact h.elim
    | lookupswitch df ps =>
      simp only [ins] at h
      split at h
      · rename_i x r
        simp only [iln] at hi
        simp only [ijp, Bool.and_eq_true, decide_eq_true_eq] at hj
        have ho : 0 ≤ (pc : Int) + Op.lookupswitch.offset ps.toList df x.toInt := by
          have hg : ∀ l : List (Int × Int), (∀ q ∈ l, 0 ≤ (pc : Int) + q.2) → 0 ≤ (pc : Int) + Op.lookupswitch.offset l df x.toInt := by
            intro l
            induction l with
            | nil => intro _; exact hj.1
            | cons a l il =>
              intro hh
              obtain ⟨a1, a2⟩ := a
              rw [Op.lookupswitch.offset_cons]
              split
              · exact hh _ List.mem_cons_self
              · exact il (fun q hq => hh q (List.mem_cons_of_mem _ hq))
          refine hg _ (fun q hq => ?_)
          obtain ⟨k, hk⟩ := List.getElem?_of_mem hq
          have hk1 := (List.getElem?_eq_some_iff.mp hk)
          obtain ⟨hk2, hk3⟩ := hk1
          have h4 := Array.all_eq_true.mp hj.2 k (by simpa using hk2)
          have h5 := of_decide_eq_true h4
          rw [← hk3]
          simpa using h5
        exact lv_lookup hx hb hd hi rfl (Int.toNat_of_nonneg ho).symm (ih _ _ _ _ _ _ _ _ _ h hl hW hS e1 e2)
      · exact h.elim
    | getfield i =>
      have hn : len = 3 := eq_of_beq hi
      subst hn
      simp only [ins] at h
      split at h
      · rename_i ci k ix a rs hf
        obtain ⟨fs, v, hc, hv, h⟩ := h
        have hge := cel_ge hc (fun _ _ q => by cases q)
        obtain ⟨r, hr, hk, hlk⟩ := fres_sp hcN hf
        exact va_get (D := D) (ci := ci) (C := r.1) (T := r.2.1) (N := r.2.2) hx hb hts (fun w hw => hgt w (cl_lay hr w hw)) hown hK.1 hP (a - z) (wz_cel (cel_own hc hge) hge) hr k hk (hts _ (hgt _ hlk)) (fun _ q => q) hv hd (ih _ _ _ _ _ _ _ _ _ h hl hW hS e1 e2)
      · exact h.elim
    | putfield i =>
      have hn : len = 3 := eq_of_beq hi
      subst hn
      simp only [ins] at h
      split at h
      · rename_i ci k ix v a rs hf
        obtain ⟨fs, hc, hkl, hfit, h⟩ := h
        have hge := cel_ge hc (fun _ _ q => by cases q)
        obtain ⟨r, hr, hk, hlk⟩ := fres_sp hcN hf
        obtain ⟨g1, g2, g3, g4⟩ := cl_fld hr hk
        obtain ⟨f1, f2⟩ := fitV_ok hfit
        simp only [ijp, hf] at hj
        by_cases hfin : (fFi.getD ci []).getD k false = true
        · rw [hfin] at hj
          simp only [Bool.not_true, Bool.false_or, Bool.and_eq_true, decide_eq_true_eq] at hj
          obtain ⟨hj1, rfl⟩ := hj
          have ho : (r.2.1 k).1 = own := by
            rw [g3, List.getD_eq_getElem?_getD, hcN]
            rfl
          exact va_putF (D := D) (C := r.1) (T := r.2.1) (N := r.2.2) hx hb hts (fun w hw => hgt w (cl_lay hr w hw)) (fun k => (fTy.getD ci []).getD k .int) (fun k hk => (cl_fld hr hk).1) (nm_ok hr) hown hK.1 hP hD (vS_self hS) (a - z) (wz_cel (cel_own hc hge) hge) hr k hk (hts _ (hgt _ hlk)) (fun _ q => q) (by rw [g2]; exact hfin) (hini hj1) ho g1 f1 f2 hkl hd (fun H1 locs1 hP1 hD1 hS1 => W_size fun hsz => by
            rw [show (Sum.inr (ci, fs.set k v) : va_E) = trE ar (oB ci (fs.set k v)) from rfl, wz_upc _ hge] at hP1
            exact ih _ _ _ _ _ _ _ _ _ h hl (WH_store (s := s) hW hS1 hP1 (upc_len _ _ _ _) hsz e0 e1 hbz) (vS_tr hS hS1) (by rw [upc_len]; exact e1) (e2.trans (Eq.symm (szH_upc (cel_own hc hge) (by rfl)))))
        · exact va_put (D := D) (C := r.1) (T := r.2.1) (N := r.2.2) hx hb hts (fun w hw => hgt w (cl_lay hr w hw)) (fun k => (fTy.getD ci []).getD k .int) (fun k hk => (cl_fld hr hk).1) (nm_ok hr) hown hK.1 hP hD (vS_self hS) (a - z) (wz_cel (cel_own hc hge) hge) hr k hk (hts _ (hgt _ hlk)) (fun _ q => q) (by rw [g2]; exact Bool.not_eq_true _ ▸ hfin) g1 f1 f2 hkl hd (fun H1 locs1 hP1 hD1 hS1 => W_size fun hsz => by
            rw [show (Sum.inr (ci, fs.set k v) : va_E) = trE ar (oB ci (fs.set k v)) from rfl, wz_upc _ hge] at hP1
            exact ih _ _ _ _ _ _ _ _ _ h hl (WH_store (s := s) hW hS1 hP1 (upc_len _ _ _ _) hsz e0 e1 hbz) (vS_tr hS hS1) (by rw [upc_len]; exact e1) (e2.trans (Eq.symm (szH_upc (cel_own hc hge) (by rfl)))))
      · exact h.elim
    | iaload =>
      have hn : len = 1 := eq_of_beq hi
      subst hn
      simp only [ins] at h
      split at h
      · rename_i i a r
        obtain ⟨n', f, hc, hin, h⟩ := h
        by_cases hge : z ≤ a
        · exact va_iald hx hb hK.1 hP (a - z) 0 (wz_cel (cel_own hc hge) hge) rfl hin hd (ih _ _ _ _ _ _ _ _ _ h hl hW hS e1 e2)
        · obtain ⟨rfl, hq2⟩ := cel_lo hc hge
          cases hq2
          exact va_sld hx hb hX hbl hbA hS hin hd (ih _ _ _ _ _ _ _ _ _ h hl hW hS e1 e2)
      · exact h.elim
    | laload =>
      have hn : len = 1 := eq_of_beq hi
      subst hn
      simp only [ins] at h
      split at h
      · rename_i i a r
        obtain ⟨n', f, hc, hin, h⟩ := h
        have hge := cel_ge hc (fun _ _ q => by cases q)
        exact va_lald hx hb hK.1 hP (a - z) 1 (wz_cel (cel_own hc hge) hge) rfl hin hd (ih _ _ _ _ _ _ _ _ _ h hl hW hS e1 e2)
      · exact h.elim
    | baload =>
      have hn : len = 1 := eq_of_beq hi
      subst hn
      simp only [ins] at h
      split at h
      · rename_i i a r
        obtain ⟨n', f, hc | hc, hin, h⟩ := h
        · have hge := cel_ge hc (fun _ _ q => by cases q)
          exact va_bald hx hb hK.1 hP (a - z) 2 (wz_cel (cel_own hc hge) hge) rfl hin hd (ih _ _ _ _ _ _ _ _ _ h hl hW hS e1 e2)
        · have hge := cel_ge hc (fun _ _ q => by cases q)
          exact va_zald hx hb hK.1 hP (a - z) 3 (wz_cel (cel_own hc hge) hge) rfl hin hd (ih _ _ _ _ _ _ _ _ _ h hl hW hS e1 e2)
      · exact h.elim
    | aaload =>
      have hn : len = 1 := eq_of_beq hi
      subst hn
      simp only [ins] at h
      split at h
      · rename_i i a r
        obtain ⟨t', n', f, hc, ht', hin, h⟩ := h
        have hge := cel_ge hc (fun _ _ q => by cases q)
        rcases ht' with rfl | rfl
        · exact va_aldq hx hb hK.1 hP (a - z) 4 (wz_cel (cel_own hc hge) hge) rfl hin hd (ih _ _ _ _ _ _ _ _ _ h hl hW hS e1 e2)
        · exact va_aldq hx hb hK.1 hP (a - z) 5 (wz_cel (cel_own hc hge) hge) rfl hin hd (ih _ _ _ _ _ _ _ _ _ h hl hW hS e1 e2)
      · exact h.elim
    | iastore =>
      have hn : len = 1 := eq_of_beq hi
      subst hn
      simp only [ins] at h
      split at h
      · rename_i x i a r
        obtain ⟨n', f, hc, hge, hin, h⟩ := h
        exact va_iast hx hb hK.1 hP hD (vS_self hS) (a - z) 0 (wz_cel (cel_own hc hge) hge) rfl hin hd (fun H1 locs1 hP1 hD1 hS1 => W_size fun hsz => by
          have hP1 : va_P D vwCl ((wz ar z σ).set (a - z) (a, trE ar (aI n' (upd f i.toNatClampNeg x)))) H1 := hP1
          rw [wz_upc _ hge] at hP1
          exact ih _ _ _ _ _ _ _ _ _ h hl (WH_store (s := s) hW hS1 hP1 (upc_len _ _ _ _) hsz e0 e1 hbz) (vS_tr hS hS1) (by rw [upc_len]; exact e1) (e2.trans (Eq.symm (szH_upc (cel_own hc hge) (by rfl)))))
      · exact h.elim
    | lastore =>
      have hn : len = 1 := eq_of_beq hi
      subst hn
      simp only [ins] at h
      split at h
      · rename_i x i a r
        obtain ⟨n', f, hc, hin, h⟩ := h
        have hge := cel_ge hc (fun _ _ q => by cases q)
        exact va_last hx hb hK.1 hP hD (vS_self hS) (a - z) 1 (wz_cel (cel_own hc hge) hge) rfl hin hd (fun H1 locs1 hP1 hD1 hS1 => W_size fun hsz => by
          have hP1 : va_P D vwCl ((wz ar z σ).set (a - z) (a, trE ar (aJ n' (vp_updL f i.toNatClampNeg x)))) H1 := hP1
          rw [wz_upc _ hge] at hP1
          exact ih _ _ _ _ _ _ _ _ _ h hl (WH_store (s := s) hW hS1 hP1 (upc_len _ _ _ _) hsz e0 e1 hbz) (vS_tr hS hS1) (by rw [upc_len]; exact e1) (e2.trans (Eq.symm (szH_upc (cel_own hc hge) (by rfl)))))
      · exact h.elim
    | bastore =>
      have hn : len = 1 := eq_of_beq hi
      subst hn
      simp only [ins] at h
      split at h
      · rename_i x i a r
        obtain ⟨n', f, hin, ⟨hc, h⟩ | ⟨hc, h⟩⟩ := h
        · have hge := cel_ge hc (fun _ _ q => by cases q)
          exact va_bast hx hb hK.1 hP hD (vS_self hS) (a - z) 2 (wz_cel (cel_own hc hge) hge) rfl hin hd (fun H1 locs1 hP1 hD1 hS1 => W_size fun hsz => by
          have hP1 : va_P D vwCl ((wz ar z σ).set (a - z) (a, trE ar (aB n' (upd f i.toNatClampNeg (vp_nar .byte x))))) H1 := hP1
          rw [wz_upc _ hge] at hP1
          exact ih _ _ _ _ _ _ _ _ _ h hl (WH_store (s := s) hW hS1 hP1 (upc_len _ _ _ _) hsz e0 e1 hbz) (vS_tr hS hS1) (by rw [upc_len]; exact e1) (e2.trans (Eq.symm (szH_upc (cel_own hc hge) (by rfl)))))
        · have hge := cel_ge hc (fun _ _ q => by cases q)
          exact va_zast hx hb hK.1 hP hD (vS_self hS) (a - z) 3 (wz_cel (cel_own hc hge) hge) rfl hin hd (fun H1 locs1 hP1 hD1 hS1 => W_size fun hsz => by
          have hP1 : va_P D vwCl ((wz ar z σ).set (a - z) (a, trE ar (aZ n' (upd f i.toNatClampNeg (vp_nar .boolean x))))) H1 := hP1
          rw [wz_upc _ hge] at hP1
          exact ih _ _ _ _ _ _ _ _ _ h hl (WH_store (s := s) hW hS1 hP1 (upc_len _ _ _ _) hsz e0 e1 hbz) (vS_tr hS hS1) (by rw [upc_len]; exact e1) (e2.trans (Eq.symm (szH_upc (cel_own hc hge) (by rfl)))))
      · exact h.elim
    | aastore =>
      have hn : len = 1 := eq_of_beq hi
      subst hn
      simp only [ins] at h
      split at h
      · rename_i v i a r
        obtain ⟨t', n', f, fs, hc, hin, hv, h⟩ := h
        have hge := cel_ge hc (fun _ _ q => by cases q)
        rcases hv with ⟨rfl, hv⟩ | ⟨rfl, hv⟩
        · have hgv := cel_ge hv (fun _ _ q => by cases q)
          exact va_astq (r := (RX7, TX7, 4)) hx hb hK.1 hP hD (vS_self hS) (a - z) 4 (v - z) 7 (wz_cel (cel_own hc hge) hge) rfl (wz_cel (cel_own hv hgv) hgv) rfl hin hd (fun H1 locs1 hP1 hD1 hS1 => W_size fun hsz => by
          have hP1 : va_P D vwCl ((wz ar z σ).set (a - z) (a, trE ar (aR 4 n' (va_up f i.toNatClampNeg (some v))))) H1 := hP1
          rw [wz_upc _ hge] at hP1
          exact ih _ _ _ _ _ _ _ _ _ h hl (WH_store (s := s) hW hS1 hP1 (upc_len _ _ _ _) hsz e0 e1 hbz) (vS_tr hS hS1) (by rw [upc_len]; exact e1) (e2.trans (Eq.symm (szH_upc (cel_own hc hge) (by rfl)))))
        · have hgv := cel_ge hv (fun _ _ q => by cases q)
          exact va_astq (r := (RX6, TX6, 11)) hx hb hK.1 hP hD (vS_self hS) (a - z) 5 (v - z) 6 (wz_cel (cel_own hc hge) hge) rfl (wz_cel (cel_own hv hgv) hgv) rfl hin hd (fun H1 locs1 hP1 hD1 hS1 => W_size fun hsz => by
          have hP1 : va_P D vwCl ((wz ar z σ).set (a - z) (a, trE ar (aR 5 n' (va_up f i.toNatClampNeg (some v))))) H1 := hP1
          rw [wz_upc _ hge] at hP1
          exact ih _ _ _ _ _ _ _ _ _ h hl (WH_store (s := s) hW hS1 hP1 (upc_len _ _ _ _) hsz e0 e1 hbz) (vS_tr hS hS1) (by rw [upc_len]; exact e1) (e2.trans (Eq.symm (szH_upc (cel_own hc hge) (by rfl)))))
      · rename_i i a r
        obtain ⟨t', n', f, hc, ht', hin, h⟩ := h
        have hge := cel_ge hc (fun _ _ q => by cases q)
        rcases ht' with rfl | rfl
        · exact va_astqN hx hb hK.1 hP hD (vS_self hS) (a - z) 4 (wz_cel (cel_own hc hge) hge) rfl hin hd (fun H1 locs1 hP1 hD1 hS1 => W_size fun hsz => by
          have hP1 : va_P D vwCl ((wz ar z σ).set (a - z) (a, trE ar (aR 4 n' (va_up f i.toNatClampNeg none)))) H1 := hP1
          rw [wz_upc _ hge] at hP1
          exact ih _ _ _ _ _ _ _ _ _ h hl (WH_store (s := s) hW hS1 hP1 (upc_len _ _ _ _) hsz e0 e1 hbz) (vS_tr hS hS1) (by rw [upc_len]; exact e1) (e2.trans (Eq.symm (szH_upc (cel_own hc hge) (by rfl)))))
        · exact va_astqN hx hb hK.1 hP hD (vS_self hS) (a - z) 5 (wz_cel (cel_own hc hge) hge) rfl hin hd (fun H1 locs1 hP1 hD1 hS1 => W_size fun hsz => by
          have hP1 : va_P D vwCl ((wz ar z σ).set (a - z) (a, trE ar (aR 5 n' (va_up f i.toNatClampNeg none)))) H1 := hP1
          rw [wz_upc _ hge] at hP1
          exact ih _ _ _ _ _ _ _ _ _ h hl (WH_store (s := s) hW hS1 hP1 (upc_len _ _ _ _) hsz e0 e1 hbz) (vS_tr hS hS1) (by rw [upc_len]; exact e1) (e2.trans (Eq.symm (szH_upc (cel_own hc hge) (by rfl)))))
      · exact h.elim
    | arraylength =>
      have hn : len = 1 := eq_of_beq hi
      subst hn
      simp only [ins] at h
      split at h
      · rename_i a r
        obtain ⟨t', n', x', hc, ht', h⟩ := h
        by_cases hge : z ≤ a
        · rcases (show t' = 0 ∨ t' = 1 ∨ t' = 2 ∨ t' = 3 ∨ t' = 4 ∨ t' = 5 by omega) with rfl | rfl | rfl | rfl | rfl | rfl
          · exact va_alen hx hb hK.1 hP (a - z) 0 (wz_cel (cel_own hc hge) hge) rfl rfl hd (ih _ _ _ _ _ _ _ _ _ h hl hW hS e1 e2)
          · exact va_alen hx hb hK.1 hP (a - z) 1 (wz_cel (cel_own hc hge) hge) rfl rfl hd (ih _ _ _ _ _ _ _ _ _ h hl hW hS e1 e2)
          · exact va_alen hx hb hK.1 hP (a - z) 2 (wz_cel (cel_own hc hge) hge) rfl rfl hd (ih _ _ _ _ _ _ _ _ _ h hl hW hS e1 e2)
          · exact va_alen hx hb hK.1 hP (a - z) 3 (wz_cel (cel_own hc hge) hge) rfl rfl hd (ih _ _ _ _ _ _ _ _ _ h hl hW hS e1 e2)
          · exact va_alen hx hb hK.1 hP (a - z) 4 (wz_cel (cel_own hc hge) hge) rfl rfl hd (ih _ _ _ _ _ _ _ _ _ h hl hW hS e1 e2)
          · exact va_alen hx hb hK.1 hP (a - z) 5 (wz_cel (cel_own hc hge) hge) rfl rfl hd (ih _ _ _ _ _ _ _ _ _ h hl hW hS e1 e2)
        · obtain ⟨rfl, hq2⟩ := cel_lo hc hge
          cases hq2
          exact va_slen hx hb hX hbl hbA hS hd (ih _ _ _ _ _ _ _ _ _ h hl hW hS e1 e2)
      · exact h.elim
    | newarray at_ =>
      have hn : len = 2 := eq_of_beq hi
      subst hn
      simp only [ins] at h
      split at h
      · rename_i x r
        obtain ⟨h1, h2, h⟩ := h
        cases at_ with
        | int =>
          have hfin := wp_gw hCg n _ _ _ _ h
          obtain ⟨v9, σ9, q9, g91, g92⟩ := hfin
          have hb9 := hQ v9 σ9 q9
          rw [List.length_append, List.length_singleton] at g91
          rw [szH_app] at g92
          have hs9 : szH σ + x.toNatClampNeg ≤ szH σ9 := g92
          refine va_newa (atype := .int) hx hb (hts _ (hgt _ (wpl_all.2.2.2.2.2.1))) rfl hK.1 hP hD (vS_self hS) (hA hS) (a0 := (x.toNatClampNeg, .inl (fun _ => 0))) (fun _ => rfl) h1 rfl (Nat.le_trans (Nat.mul_le_mul_right _ h2) (by decide)) (by omega) (by omega) hd (fun q cA H1 hK1 hP1 hD1 hS1 => ?_)
          have hcA : cA = ar 0 := ar_eq (hK1.2 6 (cA, .int) rfl).2 (hK1.2 0 (ar 0, .int) rfl).2
          subst hcA
          refine W_size fun hsz => ?_
          obtain ⟨rfl, hW1⟩ := WH_make (s := s) (x := aI x.toNatClampNeg (fun _ => 0)) hW hS1 hP1 hD1 hsz e0 e1 hbz
          exact ih _ _ _ _ _ _ _ _ _ h hl hW1 (vS_tr hS hS1) (by rw [List.length_append, List.length_singleton]; omega) (by rw [szH_app]; show _ = szH σ + x.toNatClampNeg; omega)
        | long =>
          have hfin := wp_gw hCg n _ _ _ _ h
          obtain ⟨v9, σ9, q9, g91, g92⟩ := hfin
          have hb9 := hQ v9 σ9 q9
          rw [List.length_append, List.length_singleton] at g91
          rw [szH_app] at g92
          have hs9 : szH σ + x.toNatClampNeg ≤ szH σ9 := g92
          refine va_newa (atype := .long) hx hb (hts _ (hgt _ (wpl_all.2.2.2.2.2.2.1))) rfl hK.1 hP hD (vS_self hS) (hA hS) (a0 := (x.toNatClampNeg, .inr (.inl (fun _ => 0)))) (fun _ => rfl) h1 rfl (Nat.le_trans (Nat.mul_le_mul_right _ h2) (by decide)) (by omega) (by omega) hd (fun q cA H1 hK1 hP1 hD1 hS1 => ?_)
          have hcA : cA = ar 1 := ar_eq (hK1.2 6 (cA, .long) rfl).2 (hK1.2 1 (ar 1, .long) rfl).2
          subst hcA
          refine W_size fun hsz => ?_
          obtain ⟨rfl, hW1⟩ := WH_make (s := s) (x := aJ x.toNatClampNeg (fun _ => 0)) hW hS1 hP1 hD1 hsz e0 e1 hbz
          exact ih _ _ _ _ _ _ _ _ _ h hl hW1 (vS_tr hS hS1) (by rw [List.length_append, List.length_singleton]; omega) (by rw [szH_app]; show _ = szH σ + x.toNatClampNeg; omega)
        | byte =>
          have hfin := wp_gw hCg n _ _ _ _ h
          obtain ⟨v9, σ9, q9, g91, g92⟩ := hfin
          have hb9 := hQ v9 σ9 q9
          rw [List.length_append, List.length_singleton] at g91
          rw [szH_app] at g92
          have hs9 : szH σ + x.toNatClampNeg ≤ szH σ9 := g92
          refine va_newa (atype := .byte) hx hb (hts _ (hgt _ (wpl_all.2.2.2.2.2.2.2.1))) rfl hK.1 hP hD (vS_self hS) (hA hS) (a0 := (x.toNatClampNeg, .inl (fun _ => 0))) (fun _ => rfl) h1 rfl (Nat.le_trans (Nat.mul_le_mul_right _ h2) (by decide)) (by omega) (by omega) hd (fun q cA H1 hK1 hP1 hD1 hS1 => ?_)
          have hcA : cA = ar 2 := ar_eq (hK1.2 6 (cA, .byte) rfl).2 (hK1.2 2 (ar 2, .byte) rfl).2
          subst hcA
          refine W_size fun hsz => ?_
          obtain ⟨rfl, hW1⟩ := WH_make (s := s) (x := aB x.toNatClampNeg (fun _ => 0)) hW hS1 hP1 hD1 hsz e0 e1 hbz
          exact ih _ _ _ _ _ _ _ _ _ h hl hW1 (vS_tr hS hS1) (by rw [List.length_append, List.length_singleton]; omega) (by rw [szH_app]; show _ = szH σ + x.toNatClampNeg; omega)
        | boolean =>
          have hfin := wp_gw hCg n _ _ _ _ h
          obtain ⟨v9, σ9, q9, g91, g92⟩ := hfin
          have hb9 := hQ v9 σ9 q9
          rw [List.length_append, List.length_singleton] at g91
          rw [szH_app] at g92
          have hs9 : szH σ + x.toNatClampNeg ≤ szH σ9 := g92
          refine va_newa (atype := .boolean) hx hb (hts _ (hgt _ (wpl_all.2.2.2.2.2.2.2.2))) rfl hK.1 hP hD (vS_self hS) (hA hS) (a0 := (x.toNatClampNeg, .inl (fun _ => 0))) (fun _ => rfl) h1 rfl (Nat.le_trans (Nat.mul_le_mul_right _ h2) (by decide)) (by omega) (by omega) hd (fun q cA H1 hK1 hP1 hD1 hS1 => ?_)
          have hcA : cA = ar 3 := ar_eq (hK1.2 6 (cA, .boolean) rfl).2 (hK1.2 3 (ar 3, .boolean) rfl).2
          subst hcA
          refine W_size fun hsz => ?_
          obtain ⟨rfl, hW1⟩ := WH_make (s := s) (x := aZ x.toNatClampNeg (fun _ => 0)) hW hS1 hP1 hD1 hsz e0 e1 hbz
          exact ih _ _ _ _ _ _ _ _ _ h hl hW1 (vS_tr hS hS1) (by rw [List.length_append, List.length_singleton]; omega) (by rw [szH_app]; show _ = szH σ + x.toNatClampNeg; omega)
        | _ => exact h.elim
      · exact h.elim
    | anewarray i =>
      have hn : len = 3 := eq_of_beq hi
      subst hn
      simp only [ins] at h
      split at h
      · rename_i t9 ix x r hk
        obtain ⟨h1, h2, h⟩ := h
        have hfin := wp_gw hCg n _ _ _ _ h
        obtain ⟨v9, σ9, q9, g91, g92⟩ := hfin
        have hb9 := hQ v9 σ9 q9
        rw [List.length_append, List.length_singleton] at g91
        rw [szH_app] at g92
        have hs9 : szH σ + x.toNatClampNeg ≤ szH σ9 := g92
        have hk1 := qres_ok hk
        simp only [okQ, hcN, Bool.and_eq_true, Bool.or_eq_true, decide_eq_true_eq] at hk1
        obtain ⟨ht9, hk2⟩ := hk1
        rcases ht9 with rfl | rfl
        · refine va_newq (C := RX7) hx hb hown (hts _ (hgt _ (wg_in hk2))) hK.2.2.1 hK.1 hP hD (vS_self hS) (hA hS) h1 rfl (by omega) (by omega) (by omega) hd (fun q cA H1 hK1 hP1 hD1 hS1 => ?_)
          have hcA : cA = ar 4 := ar_eq (hK1.2 6 (cA, .object RX7) rfl).2 (hK1.2 4 (ar 4, .object RX7) rfl).2
          subst hcA
          refine W_size fun hsz => ?_
          obtain ⟨rfl, hW1⟩ := WH_make (s := s) (x := aR 4 x.toNatClampNeg (fun _ => none)) hW hS1 hP1 hD1 hsz e0 e1 hbz
          exact ih _ _ _ _ _ _ _ _ _ h hl hW1 (vS_tr hS hS1) (by rw [List.length_append, List.length_singleton]; omega) (by rw [szH_app]; show _ = szH σ + x.toNatClampNeg; omega)
        · refine va_newq (C := RX6) hx hb hown (hts _ (hgt _ (wg_in hk2))) hK.2.2.2.1 hK.1 hP hD (vS_self hS) (hA hS) h1 rfl (by omega) (by omega) (by omega) hd (fun q cA H1 hK1 hP1 hD1 hS1 => ?_)
          have hcA : cA = ar 5 := ar_eq (hK1.2 6 (cA, .object RX6) rfl).2 (hK1.2 5 (ar 5, .object RX6) rfl).2
          subst hcA
          refine W_size fun hsz => ?_
          obtain ⟨rfl, hW1⟩ := WH_make (s := s) (x := aR 5 x.toNatClampNeg (fun _ => none)) hW hS1 hP1 hD1 hsz e0 e1 hbz
          exact ih _ _ _ _ _ _ _ _ _ h hl hW1 (vS_tr hS hS1) (by rw [List.length_append, List.length_singleton]; omega) (by rw [szH_app]; show _ = szH σ + x.toNatClampNeg; omega)
      · exact h.elim
    | new i =>
      have hn : len = 3 := eq_of_beq hi
      subst hn
      simp only [ins] at h
      split at h
      · rename_i ci w9 hk
        obtain ⟨i1, i2, i3⟩ := w9
        have hfin := wp_gw hCg n _ _ _ _ h
        obtain ⟨v9, σ9, q9, g91, g92⟩ := hfin
        have hb9 := hQ v9 σ9 q9
        rw [List.length_append, List.length_singleton] at g91
        rw [szH_app] at g92
        have hk1 := cres_ok hk
        simp only [okC, hcN] at hk1
        split at hk1
        case h_2 => cases hk1
        rename_i o9 r e8 e9
        cases e8
        simp only [Bool.and_eq_true] at hk1
        obtain ⟨⟨w1, w2⟩, w3⟩ := hk1
        have hln := (cl_len e9).1
        have hs9 : szH σ + nF ci ≤ szH σ9 := g92
        have hnf : nF ci = r.2.2 := hln
        refine va_new (ci := ci) (fs := dfl.getD ci []) (C := r.1) (T := r.2.1) (N := r.2.2) hx hb hts (fun w hw => hgt w (cl_lay e9 w hw)) (fun k => (fTy.getD ci []).getD k .int) (fun k hk => (cl_fld e9 hk).1) hown (hts _ (hgt _ (wg_in w1))) (hts _ (hgt _ (wg_in w2))) (hts _ (hgt _ (wg_in w3))) hK.1 hP hD (vS_self hS) (hA hS) e9 (fun k hk => (cl_fld e9 hk).2.2.2) (by omega) (by omega) hd (fun q H1 hP1 hD1 hS1 => ?_)
        refine W_size fun hsz => ?_
        obtain ⟨rfl, hW1⟩ := WH_make (s := s) (x := oB ci (dfl.getD ci [])) hW hS1 hP1 hD1 hsz e0 e1 hbz
        exact ih _ _ _ _ _ _ _ _ _ h hl hW1 (vS_tr hS hS1) (by rw [List.length_append, List.length_singleton]; omega) (by rw [szH_app]; show _ = szH σ + nF ci; omega)
      · exact h.elim
    | ireturn =>
      have hn : len = 1 := eq_of_beq hi
      subst hn
      simp only [ins] at h
      split at h
      · exact hret _ _ _ _ _ _ _ _ _ .ireturn h.2 ⟨_, _, rfl, rfl, h.1, rfl⟩ hd hW hS e1 e2
      · exact h.elim
    | lreturn =>
      have hn : len = 1 := eq_of_beq hi
      subst hn
      simp only [ins] at h
      split at h
      · exact hret _ _ _ _ _ _ _ _ _ .lreturn h ⟨_, rfl, rfl, rfl⟩ hd hW hS e1 e2
      · exact h.elim
    | areturn =>
      have hn : len = 1 := eq_of_beq hi
      subst hn
      simp only [ins] at h
      split at h
      · exact hret _ _ _ _ _ _ _ _ _ .areturn h ⟨_, _, rfl, rfl, Or.inl rfl, rfl⟩ hd hW hS e1 e2
      · exact hret _ _ _ _ _ _ _ _ _ .areturn h ⟨_, _, rfl, rfl, Or.inr ⟨_, rfl⟩, rfl⟩ hd hW hS e1 e2
      · exact h.elim
    | return_ =>
      have hn : len = 1 := eq_of_beq hi
      subst hn
      simp only [ins] at h
      split at h
      · exact hret _ _ _ _ _ _ _ _ _ .return_ h ⟨rfl, rfl, rfl⟩ hd hW hS e1 e2
      · exact h.elim
    | invokevirtual i =>
      have hn : len = 3 := eq_of_beq hi
      subst hn
      simp only [ins] at h
      split at h
      case h_2 => exact h.elim
      rename_i j ix hm0
      split at h
      case h_2 => exact h.elim
      rename_i md hp
      obtain ⟨a, fs, v, σ1, h1, hc, hw, hcal, h⟩ := h
      have hmd := hpg md (List.mem_of_getElem? hp)
      obtain ⟨c1, c2, c3, c4, c5, c6, c7⟩ := md_code hmd
      have hk := mres_ok hm0
      simp only [okK, hcN, hp, Bool.and_eq_true, decide_eq_true_eq] at hk
      have hM := hC _ md _ σ v σ1 hp hcal
      have hg := hCg _ _ _ _ _ hcal
      obtain ⟨g1, g2⟩ := hg
      have hfin := wp_gw hCg n _ _ _ _ h
      obtain ⟨v9, σ9, q9, g91, g92⟩ := hfin
      have hb9 := hQ v9 σ9 q9
      have hRR : (rmD d (σ1.length - σ.length) (szH σ1 - szH σ)).frames + 1 ≤ R.frames ∧ 8 + (md.2.2.1 + 11) + (rmD d (σ1.length - σ.length) (szH σ1 - szH σ)).locals ≤ R.locals := ⟨hRf, by show 8 + (md.2.2.1 + 11) + 38 * d ≤ R.locals; omega⟩
      have hroom : cells + (σ1.length - σ.length) ≤ R.cells ∧ slots + (szH σ1 - szH σ) ≤ R.slots := by omega
      obtain ⟨⟨w1, w2⟩, w3⟩ := hk
      have hge := cel_ge hc (fun _ _ q => by cases q)
      have he := wz_cel (ar := ar) (cel_own hc hge) hge
      obtain ⟨r, hr, -⟩ := hP _ _ he
      have hrc : r.1 = md.1.cls := Option.some.inj ((cl_len hr).2.symm.trans c6)
      obtain ⟨hs1, hs2⟩ := st_cut h1
      have hrv : ∃ cellB : Cell, H[a]? = some cellB ∧ cellB.vm.isStatics = false ∧ s.vm.findClass md.1.cls = some cellB.cls := by
        rw [← hrc]
        exact va_recv hK.1 hP hr he
      exact X_call (va_runV (As := (st.take md.2.2.2.2.1).reverse) (rest := st.drop (md.2.2.2.2.1 + 1)) ⟨hx, hb, hml, hown, hts⟩ hM (cwV md.2.2.2.2.1 hts (C := md.1.cls) (fun w hw9 => by
        simp only [wsV, List.mem_append, List.mem_cons, List.not_mem_nil, or_false] at hw9
        rcases hw9 with (rfl | rfl | rfl | rfl) | hw9
        · exact ⟨hgt _ (wg_in w1), gt_good _ (wg_in w1)⟩
        · exact ⟨hgt _ (wg_in w2), gt_good _ (wg_in w2)⟩
        · exact ⟨hgt _ (wg_in w3), gt_good _ (wg_in w3)⟩
        · exact ⟨hgt _ c2, gt_good _ c2⟩
        · exact wsM_good hgt hmd w hw9) rfl rfl rfl ⟨rfl, c3⟩ hRR) ⟨PX_blind, hrv, fun U hU hw9 => ⟨rfl, by rw [hU]; exact hW, hK.warm hw9⟩⟩ rfl hs2 hl.1 hs1 (lv_room hw) hd hroom) hS (fun H1 locs1 hW1 hS1 => ih _ _ _ _ _ _ _ _ _ h hl hW1 hS1 (by omega) (by omega))
    | invokestatic i =>
      have hn : len = 3 := eq_of_beq hi
      subst hn
      simp only [ins] at h
      split at h
      · rename_i j ix hm0
        split at h
        case h_2 => exact h.elim
        rename_i x dp a sp a0 r
        obtain ⟨hw, h1, h2, h3, h⟩ := h
        have hk := mres_ok hm0
        simp only [okK, hcN] at hk
        split at hk
        case h_2 => cases hk
        rename_i o9 md9 e8 e9
        cases e8
        have hlk := hts _ (hgt _ (wg_in hk))
        have hw8 : (List.map (fun v => v.category) r).sum ≤ 8 := hw
        have hnl : (r.map fun v => v.category).sum + (nativeFrameWords "java/lang/System" "arraycopy" 5 + 11) ≤ R.locals := by
          rw [show nativeFrameWords "java/lang/System" "arraycopy" 5 = 7 by decide +kernel]
          omega
        rcases h with ⟨n0, n1, f, g, hc0, hc, h4, h5, h6, h⟩ | ⟨n0, n1, f, g, hc0, hc, h4, h5, h⟩
        · have hge := cel_ge hc (fun _ _ q => by cases q)
          have hge0 := cel_ge hc0 (fun _ _ q => by cases q)
          exact va_copyi (ty := .byte) hx hb (by rw [hml]; exact hl.1.symm) hown hlk (hts _ (hgt _ wpl_all.2.2.1)) (hts _ (hgt _ wpl_all.2.2.2.1)) (hts _ (hgt _ wpl_all.2.2.2.2.1)) hK.1 hP hD (vS_self hS) (a0 - z) (a - z) 2 2 (wz_cel (cel_own hc0 hge0) hge0) (wz_cel (cel_own hc hge) hge) rfl rfl rfl h1 h2 h3 h4 h5 h6 (by omega) hnl hd (fun H1 locs1 hP1 hD1 hS1 => W_size fun hsz => by
          have hP1 : va_P D vwCl ((wz ar z σ).set (a - z) (a, trE ar (aB n1 (va_cpy f g sp.toNatClampNeg dp.toNatClampNeg x.toNatClampNeg)))) H1 := hP1
          rw [wz_upc _ hge] at hP1
          exact ih _ _ _ _ _ _ _ _ _ h hl (WH_store (s := s) hW hS1 hP1 (upc_len _ _ _ _) hsz e0 e1 hbz) (vS_tr hS hS1) (by rw [upc_len]; exact e1) (e2.trans (Eq.symm (szH_upc (cel_own hc hge) (by rfl)))))
        · have hge := cel_ge hc (fun _ _ q => by cases q)
          have hge0 := cel_ge hc0 (fun _ _ q => by cases q)
          exact va_copyl (ty := .long) hx hb (by rw [hml]; exact hl.1.symm) hown hlk (hts _ (hgt _ wpl_all.2.2.1)) (hts _ (hgt _ wpl_all.2.2.2.1)) (hts _ (hgt _ wpl_all.2.2.2.2.1)) hK.1 hP hD (vS_self hS) (a0 - z) (a - z) 1 1 (wz_cel (cel_own hc0 hge0) hge0) (wz_cel (cel_own hc hge) hge) rfl rfl rfl h1 h2 h3 h4 h5 (fun _ _ => rfl) (by omega) hnl hd (fun H1 locs1 hP1 hD1 hS1 => W_size fun hsz => by
          have hP1 : va_P D vwCl ((wz ar z σ).set (a - z) (a, trE ar (aJ n1 (va_cpy f g sp.toNatClampNeg dp.toNatClampNeg x.toNatClampNeg)))) H1 := hP1
          rw [wz_upc _ hge] at hP1
          exact ih _ _ _ _ _ _ _ _ _ h hl (WH_store (s := s) hW hS1 hP1 (upc_len _ _ _ _) hsz e0 e1 hbz) (vS_tr hS hS1) (by rw [upc_len]; exact e1) (e2.trans (Eq.symm (szH_upc (cel_own hc hge) (by rfl)))))
      · rename_i j ix hm0
        split at h
        case h_2 => exact h.elim
        rename_i y x r
        have hk := mres_ok hm0
        simp only [okK, hcN] at hk
        split at hk
        case h_2 => cases hk
        rename_i o9 md9 e8 e9
        cases e8
        have hw8 : (List.map (fun v => v.category) r).sum ≤ 8 := h.1
        have hfin := wp_gw hCg n _ _ _ _ h.2
        obtain ⟨v9, σ9, q9, g91, g92⟩ := hfin
        have hb9 := hQ v9 σ9 q9
        exact va_mmax hx hb (by rw [hml]; exact hl.1.symm) hown (hts _ (hgt _ (wg_in hk))) (hts _ (hgt _ wpm_all.1)) (hts _ (hgt _ wpm_all.2.2.2.2)) (hts _ (hgt _ wpm_all.2.1)) (by omega) (by omega) (by omega) (by omega) hd (ih _ _ _ _ _ _ _ _ _ h.2 hl hW hS e1 e2)
      · rename_i j ix hm0
        split at h
        case h_2 => exact h.elim
        rename_i y x r
        have hk := mres_ok hm0
        simp only [okK, hcN] at hk
        split at hk
        case h_2 => cases hk
        rename_i o9 md9 e8 e9
        cases e8
        have hw8 : (List.map (fun v => v.category) r).sum ≤ 8 := h.1
        have hfin := wp_gw hCg n _ _ _ _ h.2
        obtain ⟨v9, σ9, q9, g91, g92⟩ := hfin
        have hb9 := hQ v9 σ9 q9
        exact va_mmin hx hb (by rw [hml]; exact hl.1.symm) hown (hts _ (hgt _ (wg_in hk))) (hts _ (hgt _ wpm_all.2.2.1)) (hts _ (hgt _ wpm_all.2.2.2.2)) (hts _ (hgt _ wpm_all.2.2.2.1)) (by omega) (by omega) (by omega) (by omega) hd (ih _ _ _ _ _ _ _ _ _ h.2 hl hW hS e1 e2)
      · rename_i kd j ix hnk7 hnk8 hnk hm0
        obtain ⟨hkd, h⟩ := h
        split at h
        case h_2 => exact h.elim
        rename_i md hp
        obtain ⟨v, σ1, hsl, hw, hcal, h⟩ := h
        rcases hkd with rfl | rfl
        · have hmd := hpg md (List.mem_of_getElem? hp)
          obtain ⟨c1, c2, c3, c4, c5, c6, c7⟩ := md_code hmd
          have hk := mres_ok hm0
          simp only [okK, hcN, hp, Bool.and_eq_true, decide_eq_true_eq] at hk
          have hM := hC _ md _ σ v σ1 hp hcal
          have hg := hCg _ _ _ _ _ hcal
          obtain ⟨g1, g2⟩ := hg
          have hfin := wp_gw hCg n _ _ _ _ h
          obtain ⟨v9, σ9, q9, g91, g92⟩ := hfin
          have hb9 := hQ v9 σ9 q9
          have hRR : (rmD d (σ1.length - σ.length) (szH σ1 - szH σ)).frames + 1 ≤ R.frames ∧ 8 + (md.2.2.1 + 11) + (rmD d (σ1.length - σ.length) (szH σ1 - szH σ)).locals ≤ R.locals := ⟨hRf, by show 8 + (md.2.2.1 + 11) + 38 * d ≤ R.locals; omega⟩
          have hroom : cells + (σ1.length - σ.length) ≤ R.cells ∧ slots + (szH σ1 - szH σ) ≤ R.slots := by omega
          obtain ⟨w1, w2⟩ := hk
          exact X_call (va_runS (As := (st.take md.2.2.2.2.1).reverse) (rest := st.drop md.2.2.2.2.1) ⟨hx, hb, hml, hown, hts⟩ hM (va_cwS md.2.2.2.2.1 hts (fun w hw9 => by
            simp only [va_wsS, List.mem_append, List.mem_cons, List.not_mem_nil, or_false] at hw9
            rcases hw9 with (rfl | rfl | rfl) | hw9
            · exact ⟨hgt _ (wg_in w1), gt_good _ (wg_in w1)⟩
            · exact ⟨hgt _ (wg_in w2), gt_good _ (wg_in w2)⟩
            · exact ⟨hgt _ c2, gt_good _ c2⟩
            · exact wsM_good hgt hmd w hw9) rfl rfl rfl c3 hRR) (PX_S hK hW _) rfl (by rw [List.length_reverse, List.length_take]; omega) hl.1 (by rw [List.reverse_reverse, List.take_append_drop]) (lv_room hw) hd hroom) hS (fun H1 locs1 hW1 hS1 => ih _ _ _ _ _ _ _ _ _ h hl hW1 hS1 (by omega) (by omega))
        · have hmd := hpg md (List.mem_of_getElem? hp)
          obtain ⟨c1, c2, c3, c4, c5, c6, c7⟩ := md_code hmd
          have hk := mres_ok hm0
          simp only [okK, hcN, hp, Bool.and_eq_true, decide_eq_true_eq] at hk
          have hM := hC _ md _ σ v σ1 hp hcal
          have hg := hCg _ _ _ _ _ hcal
          obtain ⟨g1, g2⟩ := hg
          have hfin := wp_gw hCg n _ _ _ _ h
          obtain ⟨v9, σ9, q9, g91, g92⟩ := hfin
          have hb9 := hQ v9 σ9 q9
          have hRR : (rmD d (σ1.length - σ.length) (szH σ1 - szH σ)).frames + 1 ≤ R.frames ∧ 8 + (md.2.2.1 + 11) + (rmD d (σ1.length - σ.length) (szH σ1 - szH σ)).locals ≤ R.locals := ⟨hRf, by show 8 + (md.2.2.1 + 11) + 38 * d ≤ R.locals; omega⟩
          have hroom : cells + (σ1.length - σ.length) ≤ R.cells ∧ slots + (szH σ1 - szH σ) ≤ R.slots := by omega
          obtain ⟨w1, w2⟩ := hk
          exact X_call (va_runSN (As := (st.take md.2.2.2.2.1).reverse) (rest := st.drop md.2.2.2.2.1) ⟨hx, hb, hml, hown, hts⟩ hM ⟨va_cnB md.2.2.2.2.1 hts (wsM_good hgt hmd) rfl rfl rfl (hK.2.1 _ w1) (hts _ (hgt _ c2)) c3 hRR, hts _ (hgt _ (wg_in w2)), trivial⟩ (PX_S hK hW _) rfl (by rw [List.length_reverse, List.length_take]; omega) hl.1 (by rw [List.reverse_reverse, List.take_append_drop]) (lv_room hw) hd hroom) hS (fun H1 locs1 hW1 hS1 => ih _ _ _ _ _ _ _ _ _ h hl hW1 hS1 (by omega) (by omega))
      · exact h.elim
    | invokespecial i =>
      have hn : len = 3 := eq_of_beq hi
      subst hn
      simp only [ins] at h
      split at h
      · rename_i j ix hm0
        split at h
        case h_2 => exact h.elim
        rename_i a r
        have hk := mres_ok hm0
        simp only [okK, hcN] at hk
        split at hk
        case h_2 => cases hk
        rename_i o9 md9 e8 e9
        cases e8
        have hw8 : (List.map (fun v => v.category) r).sum ≤ 8 := h.1
        refine W.objInit hx hb hown (hts _ (hgt _ (wg_in hk))) (hts _ (hgt _ wpl_all.1)) (hts _ (hgt _ wpl_all.2.1)) rfl (by rw [hml]; exact hl.1) rfl hd (by omega) (by show 2 * 0 + _ + 12 ≤ R.locals; omega) ?_
        exact ih _ _ _ _ _ _ _ _ _ h.2 hl hW hS e1 e2
      · rename_i kd j ix hnk hm0
        obtain ⟨hkd, h⟩ := h
        split at h
        case h_2 => exact h.elim
        rename_i md hp
        obtain ⟨a, v, σ1, h1, hw, hcal, h⟩ := h
        obtain ⟨hs1, hs2⟩ := st_cut h1
        rcases hkd with rfl | rfl
        · have hmd := hpg md (List.mem_of_getElem? hp)
          obtain ⟨c1, c2, c3, c4, c5, c6, c7⟩ := md_code hmd
          have hk := mres_ok hm0
          simp only [okK, hcN, hp, Bool.and_eq_true, decide_eq_true_eq] at hk
          have hM := hC _ md _ σ v σ1 hp hcal
          have hg := hCg _ _ _ _ _ hcal
          obtain ⟨g1, g2⟩ := hg
          have hfin := wp_gw hCg n _ _ _ _ h
          obtain ⟨v9, σ9, q9, g91, g92⟩ := hfin
          have hb9 := hQ v9 σ9 q9
          have hRR : (rmD d (σ1.length - σ.length) (szH σ1 - szH σ)).frames + 1 ≤ R.frames ∧ 8 + (md.2.2.1 + 11) + (rmD d (σ1.length - σ.length) (szH σ1 - szH σ)).locals ≤ R.locals := ⟨hRf, by show 8 + (md.2.2.1 + 11) + 38 * d ≤ R.locals; omega⟩
          have hroom : cells + (σ1.length - σ.length) ≤ R.cells ∧ slots + (szH σ1 - szH σ) ≤ R.slots := by omega
          obtain ⟨⟨⟨w1, w2⟩, w3⟩, w4⟩ := hk
          exact X_call (va_runI (As := (st.take md.2.2.2.2.1).reverse) (rest := st.drop (md.2.2.2.2.1 + 1)) ⟨hx, hb, hml, hown, hts⟩ hM (cwI md.2.2.2.2.1 hts (wsM_good hgt hmd) (by rw [wsM, w4]) rfl rfl (hts _ (hgt _ c2)) (hts _ (hgt _ (wg_in w1))) (hts _ (hgt _ (wg_in w2))) w3 c3 hRR) (PX_S hK hW _) rfl hs2 hl.1 hs1 (lv_room hw) hd hroom) hS (fun H1 locs1 hW1 hS1 => ih _ _ _ _ _ _ _ _ _ h hl hW1 hS1 (by omega) (by omega))
        · have hmd := hpg md (List.mem_of_getElem? hp)
          obtain ⟨c1, c2, c3, c4, c5, c6, c7⟩ := md_code hmd
          have hk := mres_ok hm0
          simp only [okK, hcN, hp, Bool.and_eq_true, decide_eq_true_eq] at hk
          have hM := hC _ md _ σ v σ1 hp hcal
          have hg := hCg _ _ _ _ _ hcal
          obtain ⟨g1, g2⟩ := hg
          have hfin := wp_gw hCg n _ _ _ _ h
          obtain ⟨v9, σ9, q9, g91, g92⟩ := hfin
          have hb9 := hQ v9 σ9 q9
          have hRR : (rmD d (σ1.length - σ.length) (szH σ1 - szH σ)).frames + 1 ≤ R.frames ∧ 8 + (md.2.2.1 + 11) + (rmD d (σ1.length - σ.length) (szH σ1 - szH σ)).locals ≤ R.locals := ⟨hRf, by show 8 + (md.2.2.1 + 11) + 38 * d ≤ R.locals; omega⟩
          have hroom : cells + (σ1.length - σ.length) ≤ R.cells ∧ slots + (szH σ1 - szH σ) ≤ R.slots := by omega
          obtain ⟨⟨⟨w1, w2⟩, w3⟩, w4⟩ := hk
          exact X_call (va_runIN (As := (st.take md.2.2.2.2.1).reverse) (rest := st.drop (md.2.2.2.2.1 + 1)) ⟨hx, hb, hml, hown, hts⟩ hM ⟨va_cnB md.2.2.2.2.1 hts (wsM_good hgt hmd) (by rw [wsM, w4]) rfl rfl (hK.2.1 _ w1) (hts _ (hgt _ c2)) c3 hRR, w3, hts _ (hgt _ (wg_in w2))⟩ (PX_S hK hW _) rfl hs2 hl.1 hs1 (lv_room hw) hd hroom) hS (fun H1 locs1 hW1 hS1 => ih _ _ _ _ _ _ _ _ _ h hl hW1 hS1 (by omega) (by omega))
      · exact h.elim
    | _ => exact False.elim h
