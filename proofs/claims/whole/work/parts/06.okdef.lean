/-! WHAT A ROW OF THE TABLE OWES the class file and the words: by the place of the word in lw_tbl -/
def am_mi (j : Nat) : am_Mi := am_ms.getD j (⟨"", "", ""⟩, ⟨#[]⟩, 0, none)
def am_hi (j : Nat) : Nat × Nat × Nat × Nat := am_hs.getD j (9, 0, 0, 0)
def am_wd (h : Nat) (w : Cond) : Bool := decide (lw_tbl[h]? = some w)
def am_host : String := "FerryDeck"
def am_len (z : Instr) : Nat := match z with
  | .bipush _ => 2 | .sipush _ => 3 | .ldc _ => 2 | .ldc2_w _ => 3 | .iload _ => 2 | .lload _ => 2 | .aload _ => 2 | .istore _ => 2 | .lstore _ => 2 | .astore _ => 2 | .iinc _ _ => 3
  | .goto _ => 3 | .ifCond _ _ => 3 | .if_icmp _ _ => 3 | .ifnonnull _ => 3 | .getfield _ => 3 | .putfield _ => 3 | .newarray _ => 2 | .anewarray _ => 3 | .new _ => 3 | .invokevirtual _ => 3 | .invokespecial _ => 3 | .invokestatic _ => 3
  | _ => 1
/-- of method j (name y): row z at pc -/
def am_okx (y : MethodName) (rt : Option FieldType) (pc : Nat) (z : am_R) : Bool := match z.1 with
  | .tableswitch dflt _ _ offs => decide (0 ≤ (pc : Int) + dflt) && offs.toList.all (fun off => decide (0 ≤ (pc : Int) + off))
  | .goto off => decide (0 ≤ (pc : Int) + off) && decide (z.2.1 = am_len z.1)
  | .ifCond _ off => decide (0 ≤ (pc : Int) + off) && decide (z.2.1 = am_len z.1)
  | .if_icmp _ off => decide (0 ≤ (pc : Int) + off) && decide (z.2.1 = am_len z.1)
  | .ifnonnull off => decide (0 ≤ (pc : Int) + off) && decide (z.2.1 = am_len z.1)
  | .ldc i => decide (z.2.1 = 2) && am_wd z.2.2.2.2.2 (.constant y.cls i (Int32.ofInt z.2.2.2.2.1))
  | .ldc2_w i => decide (z.2.1 = 3) && am_wd z.2.2.2.2.2 (.constantLong y.cls i (Int64.ofInt z.2.2.2.2.1))
  | .getfield i => decide (z.2.1 = 3) && decide (z.2.2.1 < 11) && am_wd z.2.2.2.2.2 (.fieldLink y.cls i (am_ct z.2.2.1 z.2.2.2.1).1 (am_ct z.2.2.1 z.2.2.2.1).2.1 (am_ct z.2.2.1 z.2.2.2.1).2.2.1)
  | .putfield i => decide (z.2.1 = 3) && decide (z.2.2.1 < 11) && am_wd z.2.2.2.2.2 (.fieldLink y.cls i (am_ct z.2.2.1 z.2.2.2.1).1 (am_ct z.2.2.1 z.2.2.2.1).2.1 (am_ct z.2.2.1 z.2.2.2.1).2.2.1) && (!(am_ct z.2.2.1 z.2.2.2.1).2.2.2 || (decide (y.name = "<init>") && decide ((am_ct z.2.2.1 z.2.2.2.1).1 = y.cls)))
  | .new i => decide (z.2.1 = 3) && decide (z.2.2.1 < 11) && am_wd z.2.2.2.2.2 (.classLink y.cls i (am_cs z.2.2.1))
  | .anewarray i => decide (z.2.1 = 3) && (decide (z.2.2.1 = 2) || decide (z.2.2.1 = 8)) && am_wd z.2.2.2.2.2 (.classLink y.cls i (am_cs z.2.2.1))
  | .invokevirtual i => decide (z.2.1 = 3) && decide (z.2.2.1 < am_LAW) && decide ((am_hi z.2.2.1).1 = 0) && am_wd z.2.2.2.2.2 (.methodLink y.cls i (am_mi z.2.2.1).1)
  | .invokespecial i => decide (z.2.1 = 3) && (if z.2.2.2.1 = 9 then am_wd z.2.2.2.2.2 (.methodLink y.cls i objectInit) else decide (z.2.2.1 < am_LAW) && decide ((am_hi z.2.2.1).1 = 1) && (if z.2.2.2.1 = 0 then am_wd z.2.2.2.2.2 (.methodLink y.cls i (am_mi z.2.2.1).1) else am_wd z.2.2.2.2.2 (.methodLinkNest y.cls i (am_mi z.2.2.1).1 am_host)))
  | .invokestatic i => decide (z.2.1 = 3) && (if z.2.2.2.1 = 7 then am_wd z.2.2.2.2.2 (.methodLink y.cls i Lib.Math.max.name) else if z.2.2.2.1 = 8 then am_wd z.2.2.2.2.2 (.methodLink y.cls i Lib.Math.min.name) else if z.2.2.2.1 = 9 then am_wd z.2.2.2.2.2 (.methodLink y.cls i arraycopyName)
      else decide (z.2.2.1 < am_LAW) && decide ((am_hi z.2.2.1).1 = 2) && (if z.2.2.2.1 = 0 then am_wd z.2.2.2.2.2 (.methodLink y.cls i (am_mi z.2.2.1).1) else am_wd z.2.2.2.2.2 (.methodLinkNest y.cls i (am_mi z.2.2.1).1 am_host)))
  | .ireturn => decide (z.2.1 = 1) && ((decide (z.2.2.1 = 0) && decide (rt = some .int)) || (decide (z.2.2.1 = 1) && decide (rt = some .boolean)))
  | .lreturn => decide (z.2.1 = 1) && decide (rt = some .long)
  | .return_ => decide (z.2.1 = 1) && decide (rt = none)
  | .newarray t => decide (z.2.1 = 2) && decide (t = .int ∨ t = .boolean ∨ t = .long)
  | x => decide (z.2.1 = am_len x)
def am_ok (q : am_Mi) (x : Nat × am_R) : Bool := decide (decode q.2.1 x.1 = .ok (x.2.1, x.2.2.1)) && am_okx q.1 q.2.2.2 x.1 x.2
/-- of a method that is called: its words -/
def am_okm (j : Nat) : Bool := decide ((am_mi j).1.cls = am_cs (am_ci j)) && decide (am_ci j < 11) && decide ((parseMethodDescriptor (am_mi j).1.desc).map (fun d => d.parameters.length) = some (am_na j)) && decide ((am_mi j).2.2.1 = am_mx j) && decide (am_mx j ≤ 9)
  && (if (am_hi j).1 = 0 then am_wd (am_hi j).2.2.1 (.instanceMethod (am_mi j).1) && am_wd (am_hi j).2.2.2 (.selects (am_mi j).1.cls (am_mi j).1 (am_mi j).1)
      else if (am_hi j).1 = 1 then am_wd (am_hi j).2.2.1 (.instanceMethod (am_mi j).1) && decide ((am_mi j).1.name = "<init>") && decide ((am_mi j).2.2.2 = none) else am_wd (am_hi j).2.2.1 (.static (am_mi j).1))
