/-! ===== the reference's engine is sound ===== -/
def shv (m0 : Nat) : Value → Value
  | .ref k => .ref (m0 + rO.getD k 0)
  | v => v
def shL (m0 : Nat) (lv : Lv) : Lv := lv.map (fun q => (q.1, shv m0 q.2))
theorem shv_cat (m0 : Nat) (v : Value) : (shv m0 v).category = v.category := by cases v <;> rfl
theorem shL_lk (m0 i : Nat) : ∀ lv : Lv, (shL m0 lv).lookup i = (lv.lookup i).map (shv m0)
  | [] => rfl
  | (a, v) :: l => by
    show List.lookup i ((a, shv m0 v) :: shL m0 l) = _
    rw [List.lookup_cons, List.lookup_cons, shL_lk m0 i l]
    cases (i == a) <;> rfl
theorem shL_fil (m0 : Nat) (f g : Nat × Value → Bool) (h : ∀ a v, g (a, shv m0 v) = f (a, v)) : ∀ lv : Lv, (shL m0 lv).filter g = shL m0 (lv.filter f)
  | [] => rfl
  | (a, v) :: l => by
    show List.filter g ((a, shv m0 v) :: shL m0 l) = _
    rw [List.filter_cons, List.filter_cons, h a v, shL_fil m0 f g h l]
    cases f (a, v) <;> rfl
theorem shL_lvs (m0 i : Nat) (v : Value) (lv : Lv) : shL m0 (lvs i v lv) = lvs i (shv m0 v) (shL m0 lv) := by
  unfold lvs
  rw [shL_fil m0 (fun q => !(q.1 == i) && !(q.1 + 1 == i && q.2.category == 2)) _ (fun a v => by dsimp only; rw [shv_cat])]
  rfl
theorem shL_lvl (m0 i : Nat) (v : Value) (lv : Lv) : shL m0 (lvl i v lv) = lvl i (shv m0 v) (shL m0 lv) := by
  unfold lvl
  rw [shL_fil m0 (fun q => !(q.1 == i) && (!(q.1 == i + 1) && !(q.1 + 1 == i && q.2.category == 2))) _ (fun a v => by dsimp only; rw [shv_cat])]
  rfl
theorem shv_wgt (m0 : Nat) (r : List Value) : wgt (r.map (shv m0)) = wgt r := by
  unfold wgt
  rw [List.map_map]
  congr 1
  apply List.map_congr_left
  intro v _
  exact shv_cat m0 v
theorem rK_lt {k : Nat} (h : rK.getD k 9 ≠ 9) : k < 54 := by
  apply Classical.byContradiction
  intro hn
  exact h (by rw [List.getD_eq_getElem?_getD, List.getElem?_eq_none (by show 54 ≤ k; omega)]; rfl)
theorem rO_lt (k : Nat) : rO.getD k 0 < 34 := by
  by_cases hk : k < 54
  · have h : (List.range 54).all (fun k => decide (rO.getD k 0 < 34)) = true := by decide +kernel
    exact of_decide_eq_true (List.all_eq_true.mp h k (List.mem_range.mpr hk))
  · rw [List.getD_eq_getElem?_getD, List.getElem?_eq_none (by show 54 ≤ k; omega)]
    decide
theorem v_sh {m0 : Nat} {v : Option Value} (h : ∀ a, v ≠ some (.ref a)) : v.toList.map (shv m0) = v.toList := by
  cases v with
  | none => rfl
  | some w => cases w <;> first | rfl | exact absurd rfl (h _)
theorem nar_z {x : Int32} (h : x = 0 ∨ x = 1) : vp_nar .boolean x = x := by rcases h with rfl | rfl <;> decide +kernel
set_option maxHeartbeats 4000000 in
set_option maxRecDepth 100000 in
theorem insR_ins {z b L : Nat} {xs : Nat → Int32} {i0 : Nat} {σ : Hp} (hσ : i0 + 34 ≤ σ.length) {C : Rrel} {C' : Crel} {oc : Nat} {rt : Option FieldType} {Qr : Option Value → Mem → Prop} {Qr' : Option Value → Hp → Prop} {K : Nat → Lv → List Value → Mem → Prop} {K' : Nat → Lv → List Value → Hp → Prop} {pc : Nat} {lv : Lv} {st : List Value} {M : Mem} {i : Instr}
    (hC : ∀ j av M v M1, C j av M v M1 → C' j (av.map (shv (z + i0))) (putM z i0 M σ) v (putM z i0 M1 σ)) (hK : ∀ pc lv st M, K pc lv st M → K' pc (shL (z + i0) lv) (st.map (shv (z + i0))) (putM z i0 M σ)) (hQ : ∀ v M, Qr v M → Qr' v (putM z i0 M σ))
    (h : insR C oc rt Qr K pc lv st M i) : ins z b L xs C' oc rt Qr' K' pc (shL (z + i0) lv) (st.map (shv (z + i0))) (putM z i0 M σ) i := by
  cases i
  case ldc i =>
    simp only [insR] at h
    simp only [ins]
    split at h
    · rename_i v ix hk
      rw [hk]
      exact hK _ _ _ _ h
    · exact h.elim
  case ldc2_w i =>
    simp only [insR] at h
    simp only [ins]
    split at h
    · rename_i v ix hk
      rw [hk]
      exact hK _ _ _ _ h
    · exact h.elim
  case iload_n i =>
    simp only [insR] at h
    simp only [ins]
    split at h
    · rename_i x hk
      rw [shL_lk, hk]
      exact hK _ _ _ _ h
    · exact h.elim
  case iload i =>
    simp only [insR] at h
    simp only [ins]
    split at h
    · rename_i x hk
      rw [shL_lk, hk]
      exact hK _ _ _ _ h
    · exact h.elim
  case lload_n i =>
    simp only [insR] at h
    simp only [ins]
    split at h
    · rename_i x hk
      rw [shL_lk, hk]
      exact hK _ _ _ _ h
    · exact h.elim
  case lload i =>
    simp only [insR] at h
    simp only [ins]
    split at h
    · rename_i x hk
      rw [shL_lk, hk]
      exact hK _ _ _ _ h
    · exact h.elim
  case aload_n i =>
    simp only [insR] at h
    simp only [ins]
    split at h
    · rename_i x hk
      rw [shL_lk, hk]
      exact hK _ _ _ _ h
    · exact h.elim
  case istore_n i =>
    simp only [insR] at h
    split at h
    · have h1 := hK _ _ _ _ h
      rw [shL_lvs] at h1
      exact h1
    · exact h.elim
  case istore i =>
    simp only [insR] at h
    split at h
    · have h1 := hK _ _ _ _ h
      rw [shL_lvs] at h1
      exact h1
    · exact h.elim
  case lstore_n i =>
    simp only [insR] at h
    split at h
    · have h1 := hK _ _ _ _ h
      rw [shL_lvl] at h1
      exact h1
    · exact h.elim
  case lstore i =>
    simp only [insR] at h
    split at h
    · have h1 := hK _ _ _ _ h
      rw [shL_lvl] at h1
      exact h1
    · exact h.elim
  case iinc i n =>
    simp only [insR] at h
    simp only [ins]
    split at h
    · rename_i x hk
      have h1 := hK _ _ _ _ h
      rw [shL_lvs] at h1
      rw [shL_lk, hk]
      exact h1
    · exact h.elim
  case dup =>
    simp only [insR] at h
    split at h
    · exact ⟨rfl, hK _ _ _ _ h⟩
    · exact h.elim
  case dup2 =>
    simp only [insR] at h
    split at h
    · exact ⟨rfl, rfl, hK _ _ _ _ h⟩
    · exact h.elim
  case getfield i =>
    simp only [insR] at h
    split at h
    · rename_i k ix r hf
      simp only [ins, hf]
      split at h
      · rename_i hk
        exact ⟨_, _, putM_cel (c := 0) hσ (by decide), mfl_int _ _ k (rK_lt (by rw [hk]; decide)) (Or.inl hk), hK _ _ _ _ h⟩
      · rename_i hk
        exact ⟨_, _, putM_cel (c := 0) hσ (by decide), mfl_int _ _ k (rK_lt (by rw [hk]; decide)) (Or.inr hk), hK _ _ _ _ h⟩
      · rename_i hk
        exact ⟨_, _, putM_cel (c := 0) hσ (by decide), mfl_arr _ _ k (rK_lt (by rw [hk]; decide)) (Or.inl hk), hK _ _ _ _ h⟩
      · rename_i hk
        exact ⟨_, _, putM_cel (c := 0) hσ (by decide), mfl_arr _ _ k (rK_lt (by rw [hk]; decide)) (Or.inr hk), hK _ _ _ _ h⟩
      · exact h.elim
    · exact h.elim
  case putfield i =>
    simp only [insR] at h
    split at h
    · rename_i k ix x r hf
      simp only [ins, hf]
      split at h
      · rename_i hk
        have hk54 := rK_lt (k := k) (by rw [hk]; decide)
        refine ⟨_, putM_cel (c := 0) hσ (by decide), hk54, ?_, ?_⟩
        · have hf9 : (fTy.getD 9 []).getD k .int = .int := rty_0 hk
          rw [hf9]
          trivial
        · rw [show (z + i0 + rO.getD 0 0) = z + i0 + 0 from rfl, show shv (z + i0) (Value.int x) = Value.int x from rfl, putM_upc hσ (by decide) (mcs_int _ M x k hk54 (Or.inl hk))]
          exact hK _ _ _ _ h
      · rename_i hk
        have hk54 := rK_lt (k := k) (by rw [hk]; decide)
        refine ⟨_, putM_cel (c := 0) hσ (by decide), hk54, ?_, ?_⟩
        · have hf9 : (fTy.getD 9 []).getD k .int = .boolean := rty_1 hk
          rw [hf9]
          exact h.1
        · rw [show (z + i0 + rO.getD 0 0) = z + i0 + 0 from rfl, show shv (z + i0) (Value.int x) = Value.int x from rfl, putM_upc hσ (by decide) (mcs_int _ M x k hk54 (Or.inr hk))]
          exact hK _ _ _ _ h.2
      · exact h.elim
    · exact h.elim
  case iaload =>
    simp only [insR] at h
    split at h
    · rename_i i k r
      split at h
      · rename_i hk
        exact ⟨_, _, (putM_cel hσ (rO_lt k)).trans (mcs_at2 _ M k (rK_lt (by rw [hk]; decide)) hk), h.1, hK _ _ _ _ h.2⟩
      · exact h.elim
    · exact h.elim
  case baload =>
    simp only [insR] at h
    split at h
    · rename_i i k r
      split at h
      · rename_i hk
        exact ⟨_, _, Or.inr ((putM_cel hσ (rO_lt k)).trans (mcs_at3 _ M k (rK_lt (by rw [hk]; decide)) hk)), h.1, hK _ _ _ _ h.2⟩
      · exact h.elim
    · exact h.elim
  case iastore =>
    simp only [insR] at h
    split at h
    · rename_i x i k r
      split at h
      · rename_i hk
        have hk54 := rK_lt (k := k) (by rw [hk]; decide)
        refine ⟨_, _, (putM_cel hσ (rO_lt k)).trans (mcs_at2 _ M k hk54 hk), by omega, h.1, ?_⟩
        rw [putM_upc hσ (rO_lt k) (mcs_arr _ M _ x k hk54 hk)]
        exact hK _ _ _ _ h.2
      · exact h.elim
    · exact h.elim
  case bastore =>
    simp only [insR] at h
    split at h
    · rename_i x i k r
      split at h
      · rename_i hk
        have hk54 := rK_lt (k := k) (by rw [hk]; decide)
        refine ⟨_, _, h.1, Or.inr ⟨(putM_cel hσ (rO_lt k)).trans (mcs_at3 _ M k hk54 hk), ?_⟩⟩
        rw [nar_z h.2.1, putM_upc hσ (rO_lt k) (mcs_arz _ M _ x k hk54 hk)]
        exact hK _ _ _ _ h.2.2
      · exact h.elim
    · exact h.elim
  case ireturn =>
    simp only [insR] at h
    split at h
    · exact ⟨h.1, hQ _ _ h.2⟩
    · exact h.elim
  case return_ =>
    simp only [insR] at h
    split at h
    · exact hQ _ _ h
    · exact h.elim
  case ifCond c f =>
    simp only [insR] at h
    split at h
    · exact ⟨fun q => hK _ _ _ _ (h.1 q), fun q => hK _ _ _ _ (h.2 q)⟩
    · exact h.elim
  case if_icmp c f =>
    simp only [insR] at h
    split at h
    · exact ⟨fun q => hK _ _ _ _ (h.1 q), fun q => hK _ _ _ _ (h.2 q)⟩
    · exact h.elim
  case ldiv =>
    simp only [insR] at h
    split at h
    · exact ⟨h.1, hK _ _ _ _ h.2⟩
    · exact h.elim
  case lrem =>
    simp only [insR] at h
    split at h
    · exact ⟨h.1, hK _ _ _ _ h.2⟩
    · exact h.elim
  case invokevirtual i =>
    simp only [insR] at h
    split at h
    · rename_i j ix hm
      split at h
      · rename_i md hp
        obtain ⟨h9, h1, hw, v, M1, hv, hc, h⟩ := h
        simp only [ins, hm, hp]
        refine ⟨z + i0 + 0, mfl (z + i0) M, v, putM z i0 M1 σ, ?_, ?_, ?_, ?_⟩
        · rw [List.getElem?_map, h1]
          rfl
        · rw [h9]
          exact putM_cel (c := 0) hσ (by decide)
        · rw [← List.map_drop, shv_wgt]
          exact hw
        · have h2 := hC _ _ _ _ _ hc
          rw [List.map_cons, List.map_reverse, List.map_take] at h2
          refine ⟨h2, ?_⟩
          have h3 := hK _ _ _ _ h
          rw [List.map_append, v_sh hv, List.map_drop] at h3
          exact h3
      · exact h.elim
    · exact h.elim
  case invokestatic i =>
    simp only [insR] at h
    split at h
    · rename_i j ix hm
      split at h
      · rename_i md hp
        obtain ⟨hsl, hw, v, M1, hv, hc, h⟩ := h
        simp only [ins, hm, hp]
        refine ⟨by decide, v, putM z i0 M1 σ, by rw [List.length_map]; exact hsl, ?_, ?_, ?_⟩
        · rw [← List.map_drop, shv_wgt]
          exact hw
        · have h2 := hC _ _ _ _ _ hc
          rw [List.map_reverse, List.map_take] at h2
          exact h2
        · have h3 := hK _ _ _ _ h
          rw [List.map_append, v_sh hv, List.map_drop] at h3
          exact h3
      · exact h.elim
    · exact h.elim
  all_goals first
    | exact False.elim h
    | exact hK _ _ _ _ h
    | (simp only [insR] at h
       split at h <;> first
        | exact h.elim
        | exact hK _ _ _ _ h)
theorem wpR_wp {z b L : Nat} {xs : Nat → Int32} {i0 : Nat} {σ : Hp} (hσ : i0 + 34 ≤ σ.length) {C : Rrel} {C' : Crel} {t : List (Nat × Instr × Nat)} {oc : Nat} {rt : Option FieldType} {Qr : Option Value → Mem → Prop} {Qr' : Option Value → Hp → Prop}
    (hC : ∀ j av M v M1, C j av M v M1 → C' j (av.map (shv (z + i0))) (putM z i0 M σ) v (putM z i0 M1 σ)) (hQ : ∀ v M, Qr v M → Qr' v (putM z i0 M σ)) :
    ∀ (n pc : Nat) (lv : Lv) (st : List Value) (M : Mem), wpR C t oc rt Qr n pc lv st M → wp z b L xs C' t oc rt Qr' n pc (shL (z + i0) lv) (st.map (shv (z + i0))) (putM z i0 M σ)
  | 0, _, _, _, _, h => h
  | n + 1, pc, lv, st, M, h => by
    simp only [wpR] at h
    simp only [wp]
    split at h
    · rename_i q hq
      rw [hq]
      exact insR_ins hσ hC (fun pc lv st M h => wpR_wp hσ hC hQ n pc lv st M h) hQ h
    · exact h.elim
theorem lv_args_sh (m0 : Nat) : ∀ (i : Nat) (av : List Value), lv_args i (av.map (shv m0)) = shL m0 (lv_args i av)
  | i, [] => rfl
  | i, v :: l => by
    rw [List.map_cons]
    simp only [lv_args, shv_cat]
    split <;> (rw [lv_args_sh m0 _ l]; rfl)
theorem lg_sl_sh (m0 : Nat) (av : List Value) : (lg_sl (av.map (shv m0))).length = (lg_sl av).length := by
  induction av with
  | nil => rfl
  | cons v l ih =>
    rw [List.map_cons]
    cases v <;> simp [lg_sl, shv, Value.category] at ih ⊢ <;> omega
/-- every call that the reference's engine finds -/
theorem CalR_Cal {z b L : Nat} {xs : Nat → Int32} {i0 : Nat} {σ : Hp} (hσ : i0 + 34 ≤ σ.length) : ∀ (d j : Nat) (av : List Value) (M : Mem) (v : Option Value) (M1 : Mem), CalR d j av M v M1 → Cal z b L xs d j (av.map (shv (z + i0))) (putM z i0 M σ) v (putM z i0 M1 σ)
  | 0, _, _, _, _, _, h => h
  | d + 1, j, av, M, v, M1, h => by
    simp only [CalR] at h
    simp only [Cal]
    split at h
    · rename_i md hp
      rw [hp]
      obtain ⟨h1, n, h⟩ := h
      refine ⟨by rw [lg_sl_sh]; exact h1, n, ?_⟩
      have h2 := wpR_wp (z := z) (b := b) (L := L) (xs := xs) hσ (C' := Cal z b L xs d) (Qr' := fun v' σ' => v' = v ∧ σ' = putM z i0 M1 σ) (fun j av M v M1 h => CalR_Cal hσ d j av M v M1 h) (fun v' M' q => ⟨q.1, by rw [q.2]⟩) n 0 (lv_args 0 av) [] M h
      rw [← lv_args_sh] at h2
      exact h2
    · exact h.elim
