-- ===== end of PART A; then your names; then what follows =====
/-! THE CLAIM OUT OF ONE WALK OF THE LAW'S BODY. Your part is whole_start (and what it stands on); all else here is the same for every law, but numbers. -/
def R_law : String := "ProtoMachineLaw"
def lw_P (b : Addr) (xs : List Int32) (args : Array Value) (s : State) : Prop := args = #[.ref b] ∧ s.IntsAt b xs ∧ xs.length ≤ 2050 ∧ (Jvm.Cond.and given_1 narrow_1).before args s = true
def lw_Q (_ : Array Value) (s : State) (o : Outcome) (t : State) : Prop := o = .returned (some (.int 1)) ∧ Framed s o t [] 600000 7302250
def lw_Z (below : List Frame) (a : Array Value) (s : State) : State → Prop := fun t => ∃ o, t.status = .running ∧ Ended t below o ∧ lw_Q a s o t
/-- the law's own end, with 1 on the stack, nothing written that was there before, its room as the claim has it -/
theorem lw_ret {p : Program} {l : Launch} {e : Env} {s : State} {m : MethodId} {below : List Frame} {meth : Method} {c : Code} {b : Nat} (hx : p.tables.exec = Jvm.exec) (hb : c.code = code) (hr : meth.sig.returnType = ret) (hlocks : meth.locks = false) {pc : Nat} {H : Heap} {ls : Array Slot} (hdg : decode code pc = .ok (.ireturn, 1)) : W p l e room_1 s m #[Value.ref b] below meth c H [] 600000 7302250 (lw_Z below #[Value.ref b] s) (F0 m pc ls [.int 1]) := by
  intro T hT X
  obtain ⟨fs, hret, hrun, hended, hW, hframe⟩ := X.leave (v := some (.int 1)) (hlocks := hlocks) (fun h => by rw [hr] at h; cases h)
  have hmeth' : T.vm.method? m = some meth := X.method'
  refine ⟨T.setFrames fs, ?_, .returned (some (.int 1)), hrun, hended, rfl, ⟨_, rfl⟩, hW, hframe⟩
  jvm_step X.here [X.here.top, hx, hb, hdg, hmeth', hr, ret, narrow_b1]
  (try refine ⟨rfl, ?_⟩); (try refine ⟨rfl, ?_⟩)
  first | (intro acts; rw [hret _ acts rfl rfl rfl]) | rw [hret _ _ rfl rfl rfl]
  exact Steps.refl _
/-- what holds at the law's entry: the machine, the code, the tables' words (any of lw_tbl by 'hts w (by decide +kernel)'), the script of L ints xs at the cell b, what the Statement gives of the start (any of its parts by flat_of_before) -/
def lw_At (p : Program) (s : State) (m : MethodId) (meth : Method) (c : Code) (b L : Nat) (xs : Nat → Int32) : Prop :=
  p.tables.exec = Jvm.exec ∧ c.code = code ∧ meth.sig.returnType = ret ∧ c.maxLocals = 4 ∧ s.vm.findClass R_law = some m.cls ∧ (∀ w ∈ lw_tbl, w.before #[Value.ref b] s = true) ∧ va_X b L xs s s.heap ∧ b < s.heap.size ∧ meth.locks = false ∧ (Jvm.Cond.and given_1 narrow_1).before #[Value.ref b] s = true

theorem inst_all (k : Nat) (r : vw_C) (h : vwCl[k]? = some r) : ∃ n, Cond.instantiable r.1 n ∈ lw_tbl := by
  match k, h with
  | 0, h => cases h; exact ⟨5, List.mem_of_getElem? (i := 119) (by decide +kernel)⟩
  | 1, h => cases h; exact ⟨6, List.mem_of_getElem? (i := 178) (by decide +kernel)⟩
  | 2, h => cases h; exact ⟨15, List.mem_of_getElem? (i := 239) (by decide +kernel)⟩
  | 3, h => cases h; exact ⟨5, List.mem_of_getElem? (i := 782) (by decide +kernel)⟩
  | 4, h => cases h; exact ⟨2, List.mem_of_getElem? (i := 309) (by decide +kernel)⟩
  | 5, h => cases h; exact ⟨7, List.mem_of_getElem? (i := 170) (by decide +kernel)⟩
  | 6, h => cases h; exact ⟨11, List.mem_of_getElem? (i := 693) (by decide +kernel)⟩
  | 7, h => cases h; exact ⟨4, List.mem_of_getElem? (i := 126) (by decide +kernel)⟩
  | 8, h => cases h; exact ⟨11, List.mem_of_getElem? (i := 111) (by decide +kernel)⟩
  | 9, h => cases h; exact ⟨54, List.mem_of_getElem? (i := 949) (by decide +kernel)⟩
  | k + 10, h => simp [vwCl] at h
theorem arrCl {s : State} {args : Array Value} {ty : FieldType} (h : (Cond.arrayClass ty).before args s = true) : ∃ (cA : ClassId) (kA : Class) (comp : ClassId), s.vm.findClass ("[" ++ ty.toString) = some cA ∧ s.vm.classes[cA]? = some kA ∧ kA.kind = .array comp ty := by
  obtain ⟨cA, kA, comp, h1, h2, h3⟩ := Cond.arrayClass_spec h
  exact ⟨cA, kA, comp, h1, h2, h3⟩

/-- the tables' facts at the law's start -/
theorem ks_start {s : State} {args : Array Value} {scr : Cell} (hts : ∀ w ∈ lw_tbl, w.before args s = true) (hscr : s.isArrayOf scr .int) : ∃ (D : va_G) (ar : Nat → ClassId), KS D ar scr s := by
  have hg : ∀ w ∈ gt, w.before args s = true := fun w h => hts w (List.mem_filter.mp h).1
  have hcl : ∀ k : Nat, ∃ q : ClassId × (Nat → Nat), ∀ r : vw_C, vwCl[k]? = some r → u_Kn s r.1 r.2.1 r.2.2 q.1 q.2 := by
    intro k
    cases hk : vwCl[k]? with
    | none => exact ⟨(0, fun _ => 0), fun r h => by cases h⟩
    | some r =>
      obtain ⟨n, hn⟩ := inst_all k r hk
      obtain ⟨cC, iS, h⟩ := u_known (C := r.1) (T := r.2.1) (N := r.2.2) (n := n) hts (fun w hw => (List.mem_filter.mp (cl_lay hk w hw)).1) (hts _ hn)
      exact ⟨(cC, iS), fun r' h' => by cases h'; exact h⟩
  have hov := over_ok
  simp only [Bool.and_eq_true, decide_eq_true_eq] at hov
  have o1 : (Cond.arrayOver (.object RX7)).before args s = true := hts _ (List.mem_of_getElem? hov.1)
  have o2 : (Cond.arrayOver (.object RX6)).before args s = true := hts _ (List.mem_of_getElem? hov.2)
  have hp : ∀ ty : FieldType, Cond.arrayClass ty ∈ gt → (∀ C, ty ≠ .object C) → ∃ cA : ClassId, ArrOfT s cA ty ∧ va_RA s cA ty := by
    intro ty h hne
    obtain ⟨cA, kA, comp, h1, h2, h3⟩ := arrCl (hg _ h)
    refine ⟨cA, fun n z => ⟨fun k h => (by cases h), kA, h2, comp, h3⟩, ?_⟩
    cases ty with
    | object C => exact absurd rfl (hne C)
    | _ => exact h1
  have hq : ∀ C : String, (Cond.arrayOver (.object C)).before args s = true → ∃ cA : ClassId, ArrOfT s cA (.object C) ∧ va_RA s cA (.object C) := by
    intro C h
    obtain ⟨comp, cA, kA, h1, h2, h3, h4, h5⟩ := Cond.arrayOver_spec h
    exact ⟨cA, fun n z => ⟨fun k h => (by cases h), kA, h3, comp, h4⟩, kA, comp, h3, h4, h1, h5⟩
  obtain ⟨a0, p0⟩ := hp .int wpl_all.2.2.2.2.2.1 (fun _ q => by cases q)
  obtain ⟨a1, p1⟩ := hp .long wpl_all.2.2.2.2.2.2.1 (fun _ q => by cases q)
  obtain ⟨a2, p2⟩ := hp .byte wpl_all.2.2.2.2.2.2.2.1 (fun _ q => by cases q)
  obtain ⟨a3, p3⟩ := hp .boolean wpl_all.2.2.2.2.2.2.2.2 (fun _ q => by cases q)
  obtain ⟨a4, p4⟩ := hq RX7 o1
  obtain ⟨a5, p5⟩ := hq RX6 o2
  refine ⟨(fun k => (Classical.choose (hcl k)).1, fun k => (Classical.choose (hcl k)).2), fun k => match k with
    | 0 => a0
    | 1 => a1
    | 2 => a2
    | 3 => a3
    | 4 => a4
    | _ => a5, ⟨fun k r hk => Classical.choose_spec (hcl k) r hk, fun k q hk => ?_⟩, fun q hq => ?_, o1, o2, hscr⟩
  · match k, hk with
    | 0, hk => cases hk; exact p0
    | 1, hk => cases hk; exact p1
    | 2, hk => cases hk; exact p2
    | 3, hk => cases hk; exact p3
    | 4, hk => cases hk; exact p4
    | 5, hk => cases hk; exact p5
    | k + 6, hk => simp [tyL] at hk
  · have h1 := List.all_eq_true.mp nest_ok q hq
    have h2 := hts _ (List.mem_of_getElem? (of_decide_eq_true h1))
    obtain ⟨a, i, x, hh, e⟩ := nest_form q hq
    rw [e] at h2 ⊢
    exact va_Nw.of rfl h2
/-- what is left of the claim: the engine's walk of the law -/
def LawOk : Prop := ∀ (z b L : Nat) (xs : Nat → Int32), b < z → L ≤ 2050 → ∃ n, wp z b L xs (Cal z b L xs 9) t_L_law 10 (some .boolean) (fun v σ => v = some (.int 1) ∧ σ.length ≤ 600000 ∧ szH σ ≤ 7302250) n 0 [(0, .ref b)] [] []
set_option maxHeartbeats 4000000 in
set_option maxRecDepth 100000 in
theorem whole_of (hpg : ∀ md ∈ prog, okMD md = true) (hlw : okT code 4 10 false t_L_law = true) (hlaw : LawOk) {p : Program} {e : Env} {s : State} {m : MethodId} {below : List Frame} {meth : Method} {c : Code} (l : Launch) {b L : Nat} {xs : Nat → Int32} (hL : L ≤ 2050) (C0 : lw_At p s m meth c b L xs) : W p l e room_1 s m #[Value.ref b] below meth c s.heap [] 0 0 (lw_Z below #[Value.ref b] s) (entryFrame m ([Value.ref b] : List Value).toArray 4) := by
  obtain ⟨hx, hb, hr, hml, hown, hts, hX, hbl, hlocks, hgv⟩ := id C0
  obtain ⟨scr, k1, k2, k3, k4, k5⟩ := hX
  obtain ⟨D, ar, hK⟩ := ks_start hts k2
  obtain ⟨n, h⟩ := hlaw s.heap.size b L xs hbl hL
  rw [lg_entry_eq]
  have hl := lv_entry ([.ref b]) (n := 4) (Nat.le_of_ble_eq_true rfl)
  have hl : lv_has ((lg_sl ([.ref b]) ++ List.replicate (4 - (lg_sl ([.ref b])).length) Slot.unset).toArray) 4 [(0, .ref b)] := hl
  have hW : WH D ar s.heap.size b scr [] s.heap := ⟨fun k q h => by simp [wz] at h, rfl, k1⟩
  refine snd (d := 9) (Ts := lw_tbl) (ini := false) (σ0 := []) (Qr := fun v σ => v = some (.int 1) ∧ σ.length ≤ 600000 ∧ szH σ ≤ 7302250) hpg ⟨hx, hb, hml, ⟨RL, rfl, hown⟩, hts, fun w hw => (List.mem_filter.mp hw).1, hK, (fun q => by cases q), ⟨k3, k4, k5⟩, hbl, rfl, k1⟩ hlw (fun j md av σ v σ1 hp h => Cal_Ct hpg ⟨k3, k4, k5⟩ hbl 9 j md av σ v σ1 hp h) (Cal_gw 9) (Nat.le_of_ble_eq_true rfl) (Nat.le_of_ble_eq_true rfl) ?_ ?_ n 0 _ [] [] s.heap [] 0 0 _ h hl hW va_S.rf rfl rfl
  · rintro v σ1 ⟨-, h1, h2⟩
    exact ⟨by show _ ≤ 0 + 600000; omega, by show _ ≤ 0 + 7302250; omega⟩
  · rintro v σ1 H locs cells slots pc ls st i ⟨rfl, h1, h2⟩ hi hd hW1 hS e1 e2
    have e1' : 0 + cells = σ1.length := e1
    have e2' : 0 + slots = szH σ1 := e2
    refine va_forget (fun q hq => hS.2.2 q hq) ?_
    refine W.widen (k := 600000) (n := 7302250) (by omega) (by omega) ?_
    cases i with
    | ireturn =>
      obtain ⟨x, ty, rfl, -, -, hx1⟩ := hi
      cases hx1
      exact lw_ret hx hb hr hlocks hd
    | lreturn =>
      obtain ⟨x, rfl, -, hx1⟩ := hi
      cases hx1
    | areturn =>
      obtain ⟨w, n', rfl, -, hw, hx1⟩ := hi
      cases hx1
      rcases hw with hw | ⟨a, hw⟩ <;> cases hw
    | return_ =>
      obtain ⟨rfl, -, hx1⟩ := hi
      cases hx1
    | _ => exact False.elim hi
