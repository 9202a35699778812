/-- the lengths of the instructions that the engine knows -/
def iln : Instr → Nat → Bool
  | .tableswitch _ lo hi offs, _ => decide (lo ≤ hi) && decide (offs.size = (hi - lo + 1).toNat)
  | .lookupswitch _ ps, _ => (ps.toList.zip (ps.toList.drop 1)).all (fun (a, next) => a.1 < next.1)
  | .aload _, n | .iload _, n | .lload _, n | .astore _, n | .istore _, n | .lstore _, n | .bipush _, n | .newarray _, n | .ldc _, n => n == 2
  | .sipush _, n | .ldc2_w _, n | .iinc _ _, n | .if_icmp _ _, n | .ifCond _ _, n | .ifnull _, n | .ifnonnull _, n | .if_acmp _ _, n | .goto _, n | .getfield _, n | .putfield _, n | .new _, n | .anewarray _, n | .invokevirtual _, n | .invokestatic _, n | .invokespecial _, n => n == 3
  | _, n => n == 1
/-- jumps go to no place below 0; stores go to locals that the method has; a final field is written by its class's constructor alone -/
def ijp (L o : Nat) (ini : Bool) (pc : Nat) : Instr → Bool
  | .if_icmp _ f | .ifCond _ f | .ifnull f | .ifnonnull f | .if_acmp _ f | .goto f => decide (0 ≤ (pc : Int) + f)
  | .tableswitch d _ _ offs => decide (0 ≤ (pc : Int) + d) && offs.all (fun f => decide (0 ≤ (pc : Int) + f))
  | .lookupswitch d ps => decide (0 ≤ (pc : Int) + d) && ps.all (fun f => decide (0 ≤ (pc : Int) + f.2))
  | .istore i | .astore i | .iinc i _ => decide (i < L)
  | .istore_n i | .astore_n i => decide (i.val < L)
  | .lstore i => decide (i + 1 < L)
  | .lstore_n i => decide (i.val + 1 < L)
  | .putfield i => match fres o i with
    | some (ci, k, _) => !((fFi.getD ci []).getD k false) || (ini && decide (ci = o))
    | none => false
  | _ => true
def okT (c : ByteArray) (L o : Nat) (ini : Bool) (t : List (Nat × Instr × Nat)) : Bool := t.all (fun q => decide (decode c q.1 = .ok q.2) && iln q.2.1 q.2.2 && ijp L o ini q.1 q.2.1)
def okM0 (md : MD) : Bool := wg (md.2.2.2.2.2.2.1.getD 0 0) (.code md.1 md.2.1 md.2.2.1 md.2.2.2.1) && wg (md.2.2.2.2.2.2.1.getD 1 0) (.initialized md.1.cls) && decide (md.1.cls ≠ "java/lang/invoke/MethodHandle") && decide (md.1.cls ≠ "java/lang/invoke/VarHandle") && decide ((parseMethodDescriptor md.1.desc).map (fun d => d.parameters.length) = some md.2.2.2.2.1) && decide (md.2.2.1 ≤ 19) && plainName md.1.cls && decide (cN[md.2.2.2.2.2.1]? = some md.1.cls)
def okMD (md : MD) : Bool := okM0 md && okT md.2.1 md.2.2.1 md.2.2.2.2.2.1 (decide (md.1.name = "<init>")) md.2.2.2.2.2.2.2
theorem okT_cut {c : ByteArray} {L o : Nat} {ini : Bool} {t : List (Nat × Instr × Nat)} (k : Nat) (h1 : okT c L o ini (t.take k) = true) (h2 : okT c L o ini (t.drop k) = true) : okT c L o ini t = true := by
  unfold okT at h1 h2 ⊢
  rw [← List.take_append_drop k t, List.all_append, h1, h2]
  rfl
theorem okMD_of {md : MD} (h1 : okM0 md = true) (h2 : okT md.2.1 md.2.2.1 md.2.2.2.2.2.1 (decide (md.1.name = "<init>")) md.2.2.2.2.2.2.2 = true) : okMD md = true := by
  unfold okMD
  rw [h1, h2]
  rfl
