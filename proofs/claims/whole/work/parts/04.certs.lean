def fTy : List (List FieldType) := [[.int, .int, .array (.object "ProtoMachine$Word"), .array .int, .object "ProtoMachine$Word"], [.object "ProtoMachine$Frame", .object "ProtoMachine$Frame", .int, .int, .int, .array .long], [.int, .int, .int, .int, .int, .int, .int, .int, .int, .int, .object "ProtoMachine$Roots", .array (.object "ProtoMachine$Thing"), .int, .object "ProtoMachine$Thing", .object "ProtoMachine$Thing"], [.int, .int, .int, .int, .array .byte], [.int, .array .long], [.int, .int, .object "ProtoMachine$Frame", .array .long, .array .long, .array (.object "ProtoMachine$Thing"), .object "ProtoMachine$Frame"], [.int, .array .byte, .array .long, .int, .int, .int, .object "ProtoMachine$Thing", .boolean, .boolean, .boolean, .object "ProtoMachine$Thing"], [.int, .int, .int, .object "ProtoMachine$Memory"], [.object "ProtoMachine$Code", .object "ProtoMachine$Heap", .object "ProtoMachine$Roots", .object "ProtoMachine$Output", .boolean, .int, .int, .int, .int, .int, .int], [.int, .int, .array .int, .array .int, .array .int, .int, .array .int, .boolean, .int, .int, .int, .int, .array .int, .array .int, .int, .array .int, .array .int, .array .int, .array .int, .array .int, .array .int, .array .int, .int, .array .int, .array .int, .array .int, .array .int, .array .int, .int, .array .int, .array .boolean, .array .int, .array .int, .array .int, .array .int, .array .int, .array .int, .array .boolean, .array .int, .int, .int, .int, .int, .int, .int, .int, .int, .array .int, .array .int, .array .int, .array .int, .array .int, .int, .int]]
def fFi : List (List Bool) := [[false, false, true, true, true], [true, false, false, false, false, true], [false, false, false, false, false, false, false, false, true, true, true, true, false, false, false], [false, false, false, false, true], [false, true], [false, false, false, true, true, true, true], [true, true, true, false, false, false, false, false, false, false, false], [false, false, false, false], [true, true, true, true, false, false, false, false, false, false, false], [true, true, true, true, true, false, true, false, false, false, false, false, true, true, false, true, true, true, true, true, true, true, false, true, true, true, true, true, false, true, true, true, true, true, true, true, true, true, true, false, false, false, false, false, false, false, false, true, true, true, true, true, false, false]]
def dfl : List (List Value) := [[.int 0, .int 0, .null, .null, .null], [.null, .null, .int 0, .int 0, .int 0, .null], [.int 0, .int 0, .int 0, .int 0, .int 0, .int 0, .int 0, .int 0, .int 0, .int 0, .null, .null, .int 0, .null, .null], [.int 0, .int 0, .int 0, .int 0, .null], [.int 0, .null], [.int 0, .int 0, .null, .null, .null, .null, .null], [.int 0, .null, .null, .int 0, .int 0, .int 0, .null, .int 0, .int 0, .int 0, .null], [.int 0, .int 0, .int 0, .null], [.null, .null, .null, .null, .int 0, .int 0, .int 0, .int 0, .int 0, .int 0, .int 0], [.int 0, .int 0, .null, .null, .null, .int 0, .null, .int 0, .int 0, .int 0, .int 0, .int 0, .null, .null, .int 0, .null, .null, .null, .null, .null, .null, .null, .int 0, .null, .null, .null, .null, .null, .int 0, .null, .null, .null, .null, .null, .null, .null, .null, .null, .null, .int 0, .int 0, .int 0, .int 0, .int 0, .int 0, .int 0, .int 0, .null, .null, .null, .null, .null, .int 0, .int 0]]
def lay : List (List Nat) := [[158, 160, 162, 164, 166], [194, 196, 198, 200, 202, 204], [277, 279, 281, 283, 285, 287, 289, 291, 293, 295, 297, 299, 301, 303, 305], [794, 796, 798, 800, 802], [318, 320], [223, 225, 227, 229, 231, 233, 235], [723, 725, 727, 729, 731, 733, 735, 737, 739, 741, 743], [141, 143, 145, 147], [334, 336, 338, 340, 342, 344, 346, 348, 350, 352, 354], [1014, 1016, 1018, 1020, 1022, 1024, 1026, 1028, 1030, 1032, 1034, 1036, 1038, 1040, 1042, 1044, 1046, 1048, 1050, 1052, 1054, 1056, 1058, 1060, 1062, 1064, 1066, 1068, 1070, 1072, 1074, 1076, 1078, 1080, 1082, 1084, 1086, 1088, 1090, 1092, 1094, 1096, 1098, 1100, 1102, 1104, 1106, 1108, 1110, 1112, 1114, 1116, 1118, 1120]]

/-- the good words of the tables -/
def gt : List Cond := lw_tbl.filter goodWord
def wg (i : Nat) (w : Cond) : Bool := decide (lw_tbl[i]? = some w) && goodWord w
theorem wg_in {i : Nat} {w : Cond} (h : wg i w = true) : w ∈ gt := by
  simp only [wg, Bool.and_eq_true, decide_eq_true_eq] at h
  exact List.mem_filter.mpr ⟨List.mem_of_getElem? h.1, h.2⟩
theorem lk_mem {α : Type} {i : Nat} {b : α} : ∀ {l : List (Nat × α)}, l.lookup i = some b → (i, b) ∈ l
  | [], h => by simp at h
  | (a, c) :: l, h => by
    rw [List.lookup_cons] at h
    by_cases e : i = a
    · subst e
      simp at h
      subst h
      exact List.mem_cons_self
    · have e' : (i == a) = false := by simpa using e
      rw [e'] at h
      exact List.mem_cons_of_mem _ (lk_mem h)
def fres (oc i : Nat) : Option (Nat × Nat × Nat) := (flo.getD oc []).lookup i
def mres (oc i : Nat) : Option (Nat × Nat × Nat) := (mlo.getD oc []).lookup i
def cres (oc i : Nat) : Option (Nat × Nat × Nat × Nat) := (clo.getD oc []).lookup i
def qres (oc i : Nat) : Option (Nat × Nat) := (qlo.getD oc []).lookup i
def kres (oc i : Nat) : Option (Int32 × Nat) := (klo.getD oc []).lookup i
def jres (oc i : Nat) : Option (Int64 × Nat) := (jlo.getD oc []).lookup i
def okF (oc : Nat) (q : Nat × Nat × Nat × Nat) : Bool := match cN[oc]?, vwCl[q.2.1]? with
  | some o, some r => decide (q.2.2.1 < r.2.2) && wg q.2.2.2 (.fieldLink o q.1 (r.2.1 q.2.2.1).1 (r.2.1 q.2.2.1).2.1 (r.2.1 q.2.2.1).2.2.1)
  | _, _ => false
def okK (oc : Nat) (q : Nat × Nat × Nat × Nat) : Bool := match cN[oc]?, prog[q.2.2.1]? with
  | some o, some md => match q.2.1 with
    | 0 => wg q.2.2.2 (.methodLink o q.1 md.1) && wg (md.2.2.2.2.2.2.1.getD 2 0) (.instanceMethod md.1) && wg (md.2.2.2.2.2.2.1.getD 3 0) (.selects md.1.cls md.1 md.1)
    | 1 => wg q.2.2.2 (.methodLink o q.1 md.1) && wg (md.2.2.2.2.2.2.1.getD 2 0) (.static md.1)
    | 2 => wg q.2.2.2 (.methodLink o q.1 md.1) && wg (md.2.2.2.2.2.2.1.getD 2 0) (.instanceMethod md.1) && decide (md.1.name = "<init>") && decide (md.2.2.2.1 = none)
    | 4 => decide ((q.2.2.2, Cond.methodLinkNest o q.1 md.1 RX8) ∈ nest) && wg (md.2.2.2.2.2.2.1.getD 2 0) (.static md.1)
    | 5 => decide ((q.2.2.2, Cond.methodLinkNest o q.1 md.1 RX8) ∈ nest) && wg (md.2.2.2.2.2.2.1.getD 2 0) (.instanceMethod md.1) && decide (md.1.name = "<init>") && decide (md.2.2.2.1 = none)
    | 6 => wg q.2.2.2 (.methodLink o q.1 objectInit)
    | 7 => wg q.2.2.2 (.methodLink o q.1 arraycopyName)
    | 8 => wg q.2.2.2 (.methodLink o q.1 Lib.Math.max.name)
    | 9 => wg q.2.2.2 (.methodLink o q.1 Lib.Math.min.name)
    | _ => false
  | _, _ => false
def okC (oc : Nat) (q : Nat × Nat × Nat × Nat × Nat) : Bool := match cN[oc]?, vwCl[q.2.1]? with
  | some o, some r => wg q.2.2.1 (.classLink o q.1 r.1) && wg q.2.2.2.1 (.instantiable r.1 r.2.2) && wg q.2.2.2.2 (.initialized r.1)
  | _, _ => false
def aC : List String := ["", "", "", "", RX7, RX6]
def okQ (oc : Nat) (q : Nat × Nat × Nat) : Bool := match cN[oc]? with
  | some o => (decide (q.2.1 = 4) || decide (q.2.1 = 5)) && wg q.2.2 (.classLink o q.1 (aC.getD q.2.1 ""))
  | none => false
def okI (oc : Nat) (q : Nat × Int32 × Nat) : Bool := match cN[oc]? with
  | some o => wg q.2.2 (.constant o q.1 q.2.1)
  | none => false
def okJ (oc : Nat) (q : Nat × Int64 × Nat) : Bool := match cN[oc]? with
  | some o => wg q.2.2 (.constantLong o q.1 q.2.1)
  | none => false
theorem flo_ok : (List.range 13).all (fun oc => (flo.getD oc []).all (okF oc)) = true := by decide +kernel
theorem mlo_ok : (List.range 13).all (fun oc => (mlo.getD oc []).all (okK oc)) = true := by decide +kernel
theorem clo_ok : (List.range 13).all (fun oc => (clo.getD oc []).all (okC oc)) = true := by decide +kernel
theorem qlo_ok : (List.range 13).all (fun oc => (qlo.getD oc []).all (okQ oc)) = true := by decide +kernel
theorem klo_ok : (List.range 13).all (fun oc => (klo.getD oc []).all (okI oc)) = true := by decide +kernel
theorem jlo_ok : (List.range 13).all (fun oc => (jlo.getD oc []).all (okJ oc)) = true := by decide +kernel
theorem res_ok {α : Type} {T : List (List (Nat × α))} {ok : Nat → Nat × α → Bool} (hl : T.length = 13) (h : (List.range 13).all (fun oc => (T.getD oc []).all (ok oc)) = true) {oc i : Nat} {b : α} (hr : (T.getD oc []).lookup i = some b) : ok oc (i, b) = true := by
  have hm := lk_mem hr
  have ho : oc < 13 := by
    apply Classical.byContradiction
    intro hn
    rw [List.getD_eq_getElem?_getD, List.getElem?_eq_none (by omega)] at hm
    simp at hm
  have h1 := List.all_eq_true.mp h oc (List.mem_range.mpr ho)
  exact List.all_eq_true.mp h1 _ hm
theorem fres_ok {oc i : Nat} {b : Nat × Nat × Nat} (h : fres oc i = some b) : okF oc (i, b) = true := res_ok rfl flo_ok h
theorem mres_ok {oc i : Nat} {b : Nat × Nat × Nat} (h : mres oc i = some b) : okK oc (i, b) = true := res_ok rfl mlo_ok h
theorem cres_ok {oc i : Nat} {b : Nat × Nat × Nat × Nat} (h : cres oc i = some b) : okC oc (i, b) = true := res_ok rfl clo_ok h
theorem qres_ok {oc i : Nat} {b : Nat × Nat} (h : qres oc i = some b) : okQ oc (i, b) = true := res_ok rfl qlo_ok h
theorem kres_ok {oc i : Nat} {b : Int32 × Nat} (h : kres oc i = some b) : okI oc (i, b) = true := res_ok rfl klo_ok h
theorem jres_ok {oc i : Nat} {b : Int64 × Nat} (h : jres oc i = some b) : okJ oc (i, b) = true := res_ok rfl jlo_ok h
theorem nest_ok : nest.all (fun q => decide (lw_tbl[q.1]? = some q.2)) = true := by decide +kernel
theorem wpl_ok : wg (wpl.getD 0 0) (.instanceMethod objectInit) && wg (wpl.getD 1 0) (.code objectInit ⟨#[0xb1]⟩ 1 none) && wg (wpl.getD 2 0) (.native arraycopyName) && wg (wpl.getD 3 0) (.static arraycopyName) && wg (wpl.getD 4 0) (.initialized "java/lang/System") && wg (wpl.getD 5 0) (.arrayClass .int) && wg (wpl.getD 6 0) (.arrayClass .long) && wg (wpl.getD 7 0) (.arrayClass .byte) && wg (wpl.getD 8 0) (.arrayClass .boolean) = true := by decide +kernel
theorem wpm_ok : (wg (wpl.getD 11 0) (.static Lib.Math.max.name) && wg (wpl.getD 12 0) (.code Lib.Math.max.name Lib.Math.max.code 2 (some .int)) && wg (wpl.getD 13 0) (.static Lib.Math.min.name) && wg (wpl.getD 14 0) (.code Lib.Math.min.name Lib.Math.min.code 2 (some .int)) && wg (wpl.getD 15 0) (.initialized "java/lang/Math")) = true := by decide +kernel
theorem over_ok : decide (lw_tbl[wpl.getD 9 0]? = some (.arrayOver (.object RX7))) && decide (lw_tbl[wpl.getD 10 0]? = some (.arrayOver (.object RX6))) = true := by decide +kernel
def okL (ci : Nat) : Bool := match vwCl[ci]? with
  | some r => (List.range r.2.2).all (fun k => wg ((lay.getD ci []).getD k 0) (u_lay r.1 r.2.1 k) && decide (parseFieldDescriptor (r.2.1 k).2.2.1 = some ((fTy.getD ci []).getD k .int)) && decide ((r.2.1 k).2.2.2 = (fFi.getD ci []).getD k false) && decide ((r.2.1 k).1 = cN.getD ci "") && decide (defaultValue ((fTy.getD ci []).getD k .int) = vp_V (dfl.getD ci []) k)) && decide ((dfl.getD ci []).length = r.2.2) && decide (cN[ci]? = some r.1)
  | none => true
theorem lay_ok : (List.range 10).all okL = true := by decide +kernel
theorem nm_ok {ci : Nat} {r : vw_C} (h : vwCl[ci]? = some r) : ∀ a, a < r.2.2 → ∀ b, b < r.2.2 → a ≠ b → (r.2.1 a).2.1 ≠ (r.2.1 b).2.1 := by
  match ci, h with
  | 0, h => cases h; exact nmX0
  | 1, h => cases h; exact nmX1
  | 2, h => cases h; exact nmX2
  | 3, h => cases h; exact nmX3
  | 4, h => cases h; exact nmX4
  | 5, h => cases h; exact nmX5
  | 6, h => cases h; exact nmX6
  | 7, h => cases h; exact nmX7
  | 8, h => cases h; exact nmX8
  | 9, h => cases h; exact nmX9
  | k + 10, h => simp [vwCl] at h
theorem cl_lt {ci : Nat} {r : vw_C} (h : vwCl[ci]? = some r) : ci < 10 := (List.getElem?_eq_some_iff.mp h).1
theorem cl_lay {ci : Nat} {r : vw_C} (h : vwCl[ci]? = some r) : ∀ w ∈ u_ws r.1 r.2.1 r.2.2, w ∈ gt := by
  have h1 := List.all_eq_true.mp lay_ok ci (List.mem_range.mpr (cl_lt h))
  simp only [okL, h, Bool.and_eq_true] at h1
  intro w hw
  obtain ⟨k, hk, rfl⟩ := List.mem_map.mp hw
  have h2 := List.all_eq_true.mp h1.1.1 k hk
  simp only [Bool.and_eq_true] at h2
  exact wg_in h2.1.1.1.1
theorem cl_fld {ci k : Nat} {r : vw_C} (h : vwCl[ci]? = some r) (hk : k < r.2.2) : parseFieldDescriptor (r.2.1 k).2.2.1 = some ((fTy.getD ci []).getD k .int) ∧ (r.2.1 k).2.2.2 = (fFi.getD ci []).getD k false ∧ (r.2.1 k).1 = cN.getD ci "" ∧ defaultValue ((fTy.getD ci []).getD k .int) = vp_V (dfl.getD ci []) k := by
  have h1 := List.all_eq_true.mp lay_ok ci (List.mem_range.mpr (cl_lt h))
  simp only [okL, h, Bool.and_eq_true] at h1
  have h2 := List.all_eq_true.mp h1.1.1 k (List.mem_range.mpr hk)
  simp only [Bool.and_eq_true, decide_eq_true_eq] at h2
  exact ⟨h2.1.1.1.2, h2.1.1.2, h2.1.2, h2.2⟩
theorem cl_len {ci : Nat} {r : vw_C} (h : vwCl[ci]? = some r) : (dfl.getD ci []).length = r.2.2 ∧ cN[ci]? = some r.1 := by
  have h1 := List.all_eq_true.mp lay_ok ci (List.mem_range.mpr (cl_lt h))
  simp only [okL, h, Bool.and_eq_true, decide_eq_true_eq] at h1
  exact ⟨h1.1.2, h1.2⟩

