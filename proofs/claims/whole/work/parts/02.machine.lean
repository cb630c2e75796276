/-! AN ABSTRACT MACHINE over typed memories. A state: pc, locals, stack, memory. The memory: next address and slots so far; the kind of each cell (0 none, 1 object of class p, 2 int array of n, 3 boolean array, 4 long array, 5 array of references to class p, 6 the script); ints, longs, references by address and place. -/
abbrev am_R : Type := Instr × Nat × Nat × Nat × Int × Nat
abbrev am_L : Type := List (Option Value)
abbrev am_M : Type := (Nat × Nat) × (Nat → Nat × Nat × Nat) × (Nat → Nat → Int32) × (Nat → Nat → Int64) × (Nat → Nat → Option Nat)
abbrev am_O : Type := Option (Option Value × am_M)
def mS (m : am_M) : Nat := m.1.1
def mN (m : am_M) : Nat := m.1.2
def mK (m : am_M) : Nat → Nat × Nat × Nat := m.2.1
def mI (m : am_M) : Nat → Nat → Int32 := m.2.2.1
def mL (m : am_M) : Nat → Nat → Int64 := m.2.2.2.1
def mR (m : am_M) : Nat → Nat → Option Nat := m.2.2.2.2
def up2 {α : Type} (f : Nat → Nat → α) (a k : Nat) (v : α) : Nat → Nat → α := fun x y => if x = a ∧ y = k then v else f x y
def upA {α : Type} (f : Nat → α) (a : Nat) (v : α) : Nat → α := fun x => if x = a then v else f x
def sI (m : am_M) (a k : Nat) (v : Int32) : am_M := (m.1, mK m, up2 (mI m) a k v, mL m, mR m)
def sL (m : am_M) (a k : Nat) (v : Int64) : am_M := (m.1, mK m, mI m, up2 (mL m) a k v, mR m)
def sR (m : am_M) (a k : Nat) (v : Option Nat) : am_M := (m.1, mK m, mI m, mL m, up2 (mR m) a k v)
def sA (m : am_M) (a : Nat) (f : Nat → Int32) : am_M := (m.1, mK m, upA (mI m) a f, mL m, mR m)
def nw (m : am_M) (q : Nat × Nat × Nat) (n : Nat) : am_M := ((mS m + 1, mN m + n), upA (mK m) (mS m) q, upA (mI m) (mS m) (fun _ => 0), upA (mL m) (mS m) (fun _ => 0), upA (mR m) (mS m) (fun _ => none))
def am_clr (x : Option Value) : Option Value := match x with
  | some (.long _) => none
  | some (.double _) => none
  | x => x
def am_put1 (ls : am_L) (i : Nat) (v : Value) : am_L := match i with
  | 0 => ls.set 0 (some v)
  | k + 1 => (ls.modify k am_clr).set (k + 1) (some v)
def am_put2 (ls : am_L) (i : Nat) (v : Value) : am_L := (am_put1 ls i v).set (i + 1) none
def am_tg (pc : Nat) (off : Int) : Nat := ((pc : Int) + off).toNat
def am_w (st : List Value) : Nat := (st.map fun v => v.category).sum
/-- fields by class number: how many, and the kind of each (0 int, 1 long, 2 reference) -/
def am_fn (ci : Nat) : Nat := match ci with
  | 0 => 6 | 1 => 6 | 2 => 7 | 3 => 10 | 4 => 4 | 5 => 12 | 6 => 4 | 7 => 2 | 8 => 11 | 9 => 11 | 10 => 24 | _ => 0
def am_fk (ci k : Nat) : Nat := match ci with
  | 0 => if k < 4 then 2 else 0
  | 1 => 0
  | 2 => if k < 1 then 2 else 0
  | 3 => if k < 9 then 2 else 0
  | 4 => if k < 3 then 2 else 0
  | 5 => if k < 9 then 2 else 0
  | 6 => 1
  | 7 => if k < 1 then 2 else 0
  | 8 => if k < 6 then 2 else if k = 8 then 1 else if k = 10 then 2 else 0
  | 9 => if k = 8 ∨ k = 10 then 0 else 2
  | _ => if k = 7 ∨ k = 10 ∨ k = 11 ∨ k = 12 ∨ k = 14 ∨ k = 16 ∨ k = 18 ∨ k = 23 then 0 else if k = 13 then 1 else 2
def am_fv (m : am_M) (a ci k : Nat) : Value := match am_fk ci k with
  | 0 => .int (mI m a k)
  | 1 => .long (mL m a k)
  | _ => va_rf (mR m a k)
/-- what a store into a field makes of the memory, if the value is of the field's kind -/
def am_fs (m : am_M) (a ci k : Nat) (v : Value) : Option am_M := match am_fk ci k, v with
  | 0, .int x => some (sI m a k x)
  | 1, .long x => some (sL m a k x)
  | 2, .ref x => some (sR m a k (some x))
  | _, _ => none
def am_ix (i : Int32) (n : Nat) : Bool := !(decide (i < 0)) && decide (i.toNatClampNeg < n)
def am_bb (x : Int32) : Bool := decide (x = 0) || decide (x = 1)
/-- one instruction: it goes on (nx), returns (rt), or calls (cl) -/
def am_step {ρ : Type} (na ci : Nat → Nat) (z : am_R) (pc : Nat) (ls : am_L) (st : List Value) (m : am_M) (nx : Nat → am_L → List Value → am_M → Option ρ) (rt : Option Value → am_M → Option ρ) (cl : Nat → List Value → Nat → am_L → List Value → am_M → Option ρ) : Option ρ :=
  match z.1 with
  | .iconst n => nx (pc + 1) ls (.int (Int32.ofInt n) :: st) m
  | .bipush n => nx (pc + 2) ls (.int (Int8.ofInt n).toInt32 :: st) m
  | .sipush n => nx (pc + 3) ls (.int (Int16.ofInt n).toInt32 :: st) m
  | .lconst n => nx (pc + 1) ls (.long (Int64.ofNat (n : Nat)) :: st) m
  | .ldc _ => nx (pc + 2) ls (.int (Int32.ofInt z.2.2.2.2.1) :: st) m
  | .ldc2_w _ => nx (pc + 3) ls (.long (Int64.ofInt z.2.2.2.2.1) :: st) m
  | .iload_n k => (match ls[(k : Nat)]? with | some (some (.int x)) => nx (pc + 1) ls (.int x :: st) m | _ => none)
  | .iload k => (match ls[k]? with | some (some (.int x)) => nx (pc + 2) ls (.int x :: st) m | _ => none)
  | .lload_n k => (match ls[(k : Nat)]? with | some (some (.long x)) => nx (pc + 1) ls (.long x :: st) m | _ => none)
  | .lload k => (match ls[k]? with | some (some (.long x)) => nx (pc + 2) ls (.long x :: st) m | _ => none)
  | .aload_n k => (match ls[(k : Nat)]? with | some (some (.ref x)) => nx (pc + 1) ls (.ref x :: st) m | _ => none)
  | .aload k => (match ls[k]? with | some (some (.ref x)) => nx (pc + 2) ls (.ref x :: st) m | _ => none)
  | .istore_n k => (match st with | .int x :: st => if (k : Nat) < ls.length then nx (pc + 1) (am_put1 ls k (.int x)) st m else none | _ => none)
  | .istore k => (match st with | .int x :: st => if k < ls.length then nx (pc + 2) (am_put1 ls k (.int x)) st m else none | _ => none)
  | .lstore_n k => (match st with | .long x :: st => if (k : Nat) + 1 < ls.length then nx (pc + 1) (am_put2 ls k (.long x)) st m else none | _ => none)
  | .lstore k => (match st with | .long x :: st => if k + 1 < ls.length then nx (pc + 2) (am_put2 ls k (.long x)) st m else none | _ => none)
  | .astore_n k => (match st with | .ref x :: st => if (k : Nat) < ls.length then nx (pc + 1) (am_put1 ls k (.ref x)) st m else none | _ => none)
  | .astore k => (match st with | .ref x :: st => if k < ls.length then nx (pc + 2) (am_put1 ls k (.ref x)) st m else none | _ => none)
  | .iinc k n => (match ls[k]? with | some (some (.int x)) => nx (pc + 3) (am_put1 ls k (.int (x + Int32.ofInt n))) st m | _ => none)
  | .iadd => (match st with | .int y :: .int x :: st => nx (pc + 1) ls (.int (x + y) :: st) m | _ => none)
  | .isub => (match st with | .int y :: .int x :: st => nx (pc + 1) ls (.int (x - y) :: st) m | _ => none)
  | .imul => (match st with | .int y :: .int x :: st => nx (pc + 1) ls (.int (x * y) :: st) m | _ => none)
  | .iand => (match st with | .int y :: .int x :: st => nx (pc + 1) ls (.int (x &&& y) :: st) m | _ => none)
  | .idiv => (match st with | .int y :: .int x :: st => if y = 0 then none else nx (pc + 1) ls (.int (x / y) :: st) m | _ => none)
  | .irem => (match st with | .int y :: .int x :: st => if y = 0 then none else nx (pc + 1) ls (.int (x - x / y * y) :: st) m | _ => none)
  | .ladd => (match st with | .long y :: .long x :: st => nx (pc + 1) ls (.long (x + y) :: st) m | _ => none)
  | .lsub => (match st with | .long y :: .long x :: st => nx (pc + 1) ls (.long (x - y) :: st) m | _ => none)
  | .lmul => (match st with | .long y :: .long x :: st => nx (pc + 1) ls (.long (x * y) :: st) m | _ => none)
  | .land => (match st with | .long y :: .long x :: st => nx (pc + 1) ls (.long (x &&& y) :: st) m | _ => none)
  | .lor => (match st with | .long y :: .long x :: st => nx (pc + 1) ls (.long (x ||| y) :: st) m | _ => none)
  | .lneg => (match st with | .long x :: st => nx (pc + 1) ls (.long (-x) :: st) m | _ => none)
  | .lshl => (match st with | .int y :: .long x :: st => nx (pc + 1) ls (.long (x <<< (y.toInt64 &&& 63)) :: st) m | _ => none)
  | .lcmp => (match st with | .long y :: .long x :: st => nx (pc + 1) ls (.int (lg_cmp x y) :: st) m | _ => none)
  | .i2l => (match st with | .int x :: st => nx (pc + 1) ls (.long x.toInt64 :: st) m | _ => none)
  | .dup => (match st with | .int x :: st => nx (pc + 1) ls (.int x :: .int x :: st) m | .ref x :: st => nx (pc + 1) ls (.ref x :: .ref x :: st) m | _ => none)
  | .dup2 => (match st with | .int x :: .ref y :: st => nx (pc + 1) ls (.int x :: .ref y :: .int x :: .ref y :: st) m | _ => none)
  | .goto off => nx (am_tg pc off) ls st m
  | .ifCond .eq off => (match st with | .int x :: st => if x = 0 then nx (am_tg pc off) ls st m else nx (pc + 3) ls st m | _ => none)
  | .ifCond .ne off => (match st with | .int x :: st => if x = 0 then nx (pc + 3) ls st m else nx (am_tg pc off) ls st m | _ => none)
  | .ifCond .lt off => (match st with | .int x :: st => if x < 0 then nx (am_tg pc off) ls st m else nx (pc + 3) ls st m | _ => none)
  | .ifCond .ge off => (match st with | .int x :: st => if x < 0 then nx (pc + 3) ls st m else nx (am_tg pc off) ls st m | _ => none)
  | .ifCond .gt off => (match st with | .int x :: st => if 0 < x then nx (am_tg pc off) ls st m else nx (pc + 3) ls st m | _ => none)
  | .ifCond .le off => (match st with | .int x :: st => if 0 < x then nx (pc + 3) ls st m else nx (am_tg pc off) ls st m | _ => none)
  | .if_icmp .eq off => (match st with | .int y :: .int x :: st => if x = y then nx (am_tg pc off) ls st m else nx (pc + 3) ls st m | _ => none)
  | .if_icmp .ne off => (match st with | .int y :: .int x :: st => if x = y then nx (pc + 3) ls st m else nx (am_tg pc off) ls st m | _ => none)
  | .if_icmp .lt off => (match st with | .int y :: .int x :: st => if x < y then nx (am_tg pc off) ls st m else nx (pc + 3) ls st m | _ => none)
  | .if_icmp .ge off => (match st with | .int y :: .int x :: st => if x < y then nx (pc + 3) ls st m else nx (am_tg pc off) ls st m | _ => none)
  | .if_icmp .gt off => (match st with | .int y :: .int x :: st => if y < x then nx (am_tg pc off) ls st m else nx (pc + 3) ls st m | _ => none)
  | .if_icmp .le off => (match st with | .int y :: .int x :: st => if y < x then nx (pc + 3) ls st m else nx (am_tg pc off) ls st m | _ => none)
  | .ifnonnull off => (match st with | .ref _ :: st => nx (am_tg pc off) ls st m | .null :: st => nx (pc + 3) ls st m | _ => none)
  | .tableswitch dflt lo hi offs => (match st with | .int x :: st => if x.toInt < lo ∨ hi < x.toInt then nx (am_tg pc dflt) ls st m else (match offs[(x.toInt - lo).toNat]? with | some off => nx (am_tg pc off) ls st m | none => none) | _ => none)
  | .getfield _ => (match st with | .ref a :: st => if mK m a = (1, z.2.2.1, 0) ∧ z.2.2.2.1 < am_fn z.2.2.1 then nx (pc + 3) ls (am_fv m a z.2.2.1 z.2.2.2.1 :: st) m else none | _ => none)
  | .putfield _ => (match st with | v :: .ref a :: st => if mK m a = (1, z.2.2.1, 0) ∧ z.2.2.2.1 < am_fn z.2.2.1 then (match am_fs m a z.2.2.1 z.2.2.2.1 v with | some m' => nx (pc + 3) ls st m' | none => none) else none | _ => none)
  | .iaload => (match st with | .int i :: .ref a :: st => if ((mK m a).1 = 2 ∨ (mK m a).1 = 6) ∧ am_ix i (mK m a).2.2 = true then nx (pc + 1) ls (.int (mI m a i.toNatClampNeg) :: st) m else none | _ => none)
  | .baload => (match st with | .int i :: .ref a :: st => if (mK m a).1 = 3 ∧ am_ix i (mK m a).2.2 = true then nx (pc + 1) ls (.int (mI m a i.toNatClampNeg) :: st) m else none | _ => none)
  | .laload => (match st with | .int i :: .ref a :: st => if (mK m a).1 = 4 ∧ am_ix i (mK m a).2.2 = true then nx (pc + 1) ls (.long (mL m a i.toNatClampNeg) :: st) m else none | _ => none)
  | .aaload => (match st with | .int i :: .ref a :: st => if (mK m a).1 = 5 ∧ am_ix i (mK m a).2.2 = true then nx (pc + 1) ls (va_rf (mR m a i.toNatClampNeg) :: st) m else none | _ => none)
  | .iastore => (match st with | .int x :: .int i :: .ref a :: st => if (mK m a).1 = 2 ∧ am_ix i (mK m a).2.2 = true then nx (pc + 1) ls st (sI m a i.toNatClampNeg x) else none | _ => none)
  | .bastore => (match st with | .int x :: .int i :: .ref a :: st => if (mK m a).1 = 3 ∧ am_ix i (mK m a).2.2 = true ∧ am_bb x = true then nx (pc + 1) ls st (sI m a i.toNatClampNeg x) else none | _ => none)
  | .lastore => (match st with | .long x :: .int i :: .ref a :: st => if (mK m a).1 = 4 ∧ am_ix i (mK m a).2.2 = true then nx (pc + 1) ls st (sL m a i.toNatClampNeg x) else none | _ => none)
  | .aastore => (match st with | .ref x :: .int i :: .ref a :: st => if (mK m a).1 = 5 ∧ am_ix i (mK m a).2.2 = true ∧ mK m x = (1, (mK m a).2.1, 0) then nx (pc + 1) ls st (sR m a i.toNatClampNeg (some x)) else none | _ => none)
  | .arraylength => (match st with | .ref a :: st => if (mK m a).1 = 6 then nx (pc + 1) ls (.int (Int32.ofNat (mK m a).2.2) :: st) m else none | _ => none)
  | .newarray .int => (match st with | .int n :: st => if am_ix n 100000 = true then nx (pc + 2) ls (.ref (mS m) :: st) (nw m (2, 0, n.toNatClampNeg) n.toNatClampNeg) else none | _ => none)
  | .newarray .boolean => (match st with | .int n :: st => if am_ix n 100000 = true then nx (pc + 2) ls (.ref (mS m) :: st) (nw m (3, 0, n.toNatClampNeg) n.toNatClampNeg) else none | _ => none)
  | .newarray .long => (match st with | .int n :: st => if am_ix n 100000 = true then nx (pc + 2) ls (.ref (mS m) :: st) (nw m (4, 0, n.toNatClampNeg) n.toNatClampNeg) else none | _ => none)
  | .anewarray _ => (match st with | .int n :: st => if am_ix n 100000 = true then nx (pc + 3) ls (.ref (mS m) :: st) (nw m (5, z.2.2.1, n.toNatClampNeg) n.toNatClampNeg) else none | _ => none)
  | .new _ => nx (pc + 3) ls (.ref (mS m) :: st) (nw m (1, z.2.2.1, 0) (am_fn z.2.2.1))
  | .ireturn => (match st with | [.int x] => if z.2.2.1 = 0 ∨ am_bb x = true then rt (some (.int x)) m else none | _ => none)
  | .lreturn => (match st with | [.long x] => rt (some (.long x)) m | _ => none)
  | .return_ => (match st with | [] => rt none m | _ => none)
  | .invokevirtual _ => (match st.drop (na z.2.2.1) with | .ref a :: st' => if mK m a = (1, ci z.2.2.1, 0) ∧ na z.2.2.1 ≤ st.length ∧ am_w st' ≤ 8 then cl z.2.2.1 (.ref a :: (st.take (na z.2.2.1)).reverse) (pc + 3) ls st' m else none | _ => none)
  | .invokespecial _ =>
    if z.2.2.2.1 = 9 then (match st with | .ref _ :: st' => if am_w st' ≤ 8 then nx (pc + 3) ls st' m else none | _ => none)
    else (match st.drop (na z.2.2.1) with | .ref a :: st' => if na z.2.2.1 ≤ st.length ∧ am_w st' ≤ 8 then cl z.2.2.1 (.ref a :: (st.take (na z.2.2.1)).reverse) (pc + 3) ls st' m else none | _ => none)
  | .invokestatic _ =>
    if z.2.2.2.1 = 7 then (match st with | .int y :: .int x :: st' => if am_w st' ≤ 8 then nx (pc + 3) ls (.int (if x < y then y else x) :: st') m else none | _ => none)
    else if z.2.2.2.1 = 8 then (match st with | .int y :: .int x :: st' => if am_w st' ≤ 8 then nx (pc + 3) ls (.int (if y < x then y else x) :: st') m else none | _ => none)
    else if z.2.2.2.1 = 9 then (match st with | .int n :: .int dp :: .ref b :: .int sp :: .ref a :: st' => if (mK m a).1 = 2 ∧ (mK m b).1 = 2 ∧ a ≠ b ∧ ¬ sp < 0 ∧ ¬ dp < 0 ∧ ¬ n < 0 ∧ sp.toNatClampNeg + n.toNatClampNeg ≤ (mK m a).2.2 ∧ dp.toNatClampNeg + n.toNatClampNeg ≤ (mK m b).2.2 ∧ am_w st' ≤ 8 then nx (pc + 3) ls st' (sA m b (va_cpy (mI m a) (mI m b) sp.toNatClampNeg dp.toNatClampNeg n.toNatClampNeg)) else none | _ => none)
    else (if na z.2.2.1 ≤ st.length ∧ am_w (st.drop (na z.2.2.1)) ≤ 8 then cl z.2.2.1 (st.take (na z.2.2.1)).reverse (pc + 3) ls (st.drop (na z.2.2.1)) m else none)
  | _ => none
