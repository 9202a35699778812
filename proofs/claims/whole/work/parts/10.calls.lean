/-! ===== every call that the engine finds is the machine's ===== -/
set_option maxHeartbeats 4000000 in
set_option maxRecDepth 100000 in
theorem Cal_Ct {l : Launch} {D : va_G} {ar : Nat → ClassId} {z b L : Nat} {xs : Nat → Int32} {scr : Cell} (hpg : ∀ md ∈ prog, okMD md = true) (hscr : scr.vm ≠ .unknown ∧ scr.slots.size = L ∧ ∀ j : Nat, j < L → scr.slots[j]? = some (.int (xs j))) (hbz : b < z) :
    ∀ (d j : Nat) (md : MD) (av : List Value) (σ : Hp) (v : Option Value) (σ1 : Hp), prog[j]? = some md → Cal z b L xs d j av σ v σ1 → Ct l D ar z b scr d md av σ v σ1
  | 0, _, _, _, _, _, _, _, h => h.elim
  | d + 1, j, md, av, σ, v, σ1, hp, h => by
    have hg := Cal_gw (d + 1) j av σ v σ1 h
    obtain ⟨hg1, hg2⟩ := hg
    simp only [Cal, hp] at h
    obtain ⟨hln, n, h⟩ := h
    have hmd := hpg md (List.mem_of_getElem? hp)
    obtain ⟨c1, c2, c3, c4, c5, c6, c7⟩ := md_code hmd
    refine Met.ofW (cc := md.2.1) (maxL := md.2.2.1) (ret := md.2.2.2.1) (ws' := gt) c5 rfl ?_
    intro p e s m args below meth c s₁ B hml hv
    obtain ⟨rfl, hW, hK⟩ := hv
    have hts := atoms_spec (ws := wsM md) B.pre
    have hown : s.vm.findClass md.1.cls = some m.cls := findClass_of_methodNamed B.named
    have hlocks := B.notSynchronized
    have hr := B.returns
    have hx := B.exec
    have hb := B.bytes
    rw [lg_entry_eq]
    have hl := lv_entry av hln
    refine snd (d := d) (Ts := wsM md) (ini := decide (md.1.name = "<init>")) (σ0 := σ) (Qr := fun v' σ' => v' = v ∧ σ' = σ1) hpg ⟨hx, hb, hml, ⟨_, c6, hown⟩, hts, fun w hw => List.mem_cons_of_mem _ hw, hK, fun q => (name_of_methodNamed B.named B.method).1.trans (of_decide_eq_true q), hscr, hbz, hW.2.1, hW.2.2⟩ c7 (fun j md av σ v σ1 hp h => Cal_Ct hpg hscr hbz d j md av σ v σ1 hp h) (Cal_gw d) (Nat.le_refl _) (by show 38 * d + 38 ≤ 38 * (d + 1); omega) ?_ ?_ n 0 _ [] σ s.heap [] 0 0 _ h hl hW va_S.rf rfl rfl
    · rintro v' σ' ⟨rfl, rfl⟩
      show _ ≤ _ + (_ - _) ∧ _ ≤ _ + (_ - _)
      omega
    · rintro v' σ' H locs cells slots pc ls st i ⟨rfl, rfl⟩ hi hd hW1 hS e1 e2
      obtain rfl : cells = σ'.length - σ.length := by omega
      obtain rfl : slots = szH σ' - szH σ := by omega
      cases i with
      | ireturn =>
        obtain ⟨x, ty, rfl, hrt, hf, rfl⟩ := hi
        exact W.zret (ty := ty) hx hb (hr.trans hrt) (fitV_ok hf).1 (fun t ht hw => ⟨⟨rfl, by rw [ht]; exact hW1⟩, hS.F ht⟩) hS.2.2 hd
      | lreturn =>
        obtain ⟨x, rfl, hrt, rfl⟩ := hi
        exact W.lret hx hb (hr.trans hrt) (fun t ht hw => ⟨⟨rfl, by rw [ht]; exact hW1⟩, hS.F ht⟩) hS.2.2 hd
      | areturn =>
        obtain ⟨w, n', rfl, hrt, hw, rfl⟩ := hi
        exact W.aret hx hb (hr.trans hrt) (Or.inl ⟨_, rfl⟩) hw (fun t ht hw => ⟨⟨rfl, by rw [ht]; exact hW1⟩, hS.F ht⟩) hS.2.2 hd
      | return_ =>
        obtain ⟨rfl, hrt, rfl⟩ := hi
        exact W.vret hx hb (hr.trans hrt) (fun t ht hw => ⟨⟨rfl, by rw [ht]; exact hW1⟩, hS.F ht⟩) hS.2.2 hd
      | _ => exact False.elim hi
