/-! THE INTERPRETER: the machine over an abstract heap: a reference is a place in a list of cells. A cell: (tag, contents); tag < 100: an object of the class of that number in vwCl; 100: int[]; 101: boolean[]; 200 + c: an array of references to objects of class c. Places from 1000000 on are outside: the script. -/
abbrev ip_H : Type := List (Nat × List Value)
/-- a method: its name, code, how many locals, what it returns, the number of its class, its level (callees are lower) -/
abbrev ip_M : Type := MethodName × ByteArray × Nat × Option FieldType × Nat × Nat
/-- what a call names: kind (0 virtual, 1 static, 2 constructor, 3 constructor of a nest mate; 10 and on: built in), the method's number, how many parameters -/
abbrev ip_C : Type := Nat × Nat × Nat
def ip_junk : Value := .retAddr 0
def ip_tgt (pc : Nat) (off : Int) : Option Nat := if 0 ≤ (pc : Int) + off then some ((pc : Int) + off).toNat else none
def ip_okst (ls : List Value) (i : Nat) : Bool := decide (i < ls.length) && (match i with
  | 0 => true
  | j + 1 => match ls[j]? with
    | some v => v.category == 1
    | none => true)
def ip_store (pc : Nat) (ls : List Value) (i : Nat) (st : List Value) : Option (Nat × List Value × List Value) := match st with
  | .int x :: r => if ip_okst ls i = true then some (pc, ls.set i (.int x), r) else none
  | _ => none
def ip_astore (pc : Nat) (ls : List Value) (i : Nat) (st : List Value) : Option (Nat × List Value × List Value) := match st with
  | .ref x :: r => if ip_okst ls i = true then some (pc, ls.set i (.ref x), r) else none
  | _ => none
def ip_load (pc : Nat) (ls : List Value) (i : Nat) (st : List Value) : Option (Nat × List Value × List Value) := match ls[i]? with
  | some (.int x) => some (pc, ls, .int x :: st)
  | _ => none
def ip_lload (pc : Nat) (ls : List Value) (i : Nat) (st : List Value) : Option (Nat × List Value × List Value) := match ls[i]? with
  | some (.long x) => some (pc, ls, .long x :: st)
  | _ => none
def ip_aload (pc : Nat) (ls : List Value) (i : Nat) (st : List Value) : Option (Nat × List Value × List Value) := match ls[i]? with
  | some (.ref x) => some (pc, ls, .ref x :: st)
  | _ => none
def ip_bin (pc : Nat) (ls st : List Value) (f : Int32 → Int32 → Int32) : Option (Nat × List Value × List Value) := match st with
  | .int y :: .int x :: r => some (pc + 1, ls, .int (f x y) :: r)
  | _ => none
def ip_br (pc : Nat) (ls r : List Value) (off : Int) (b : Bool) : Option (Nat × List Value × List Value) := match ip_tgt pc off with
  | some t => some (if b = true then t else pc + 3, ls, r)
  | none => none
def ip_if1 (pc : Nat) (ls st : List Value) (off : Int) (f : Int32 → Bool) : Option (Nat × List Value × List Value) := match st with
  | .int x :: r => ip_br pc ls r off (f x)
  | _ => none
def ip_if2 (pc : Nat) (ls st : List Value) (off : Int) (f : Int32 → Int32 → Bool) : Option (Nat × List Value × List Value) := match st with
  | .int y :: .int x :: r => ip_br pc ls r off (f x y)
  | _ => none
/-- what touches neither the heap nor the tables -/
def ip_s0 (pc : Nat) (ins : Instr) (len : Nat) (ls st : List Value) : Option (Nat × List Value × List Value) := match ins, len with
  | .iconst n, 1 => some (pc + 1, ls, .int (Int32.ofInt n) :: st)
  | .bipush n, 2 => some (pc + 2, ls, .int (Int8.ofInt n).toInt32 :: st)
  | .sipush n, 3 => some (pc + 3, ls, .int (Int16.ofInt n).toInt32 :: st)
  | .lconst n, 1 => some (pc + 1, ls, .long (Int64.ofNat (n : Nat)) :: st)
  | .iload_n k, 1 => ip_load (pc + 1) ls k st
  | .iload i, 2 => ip_load (pc + 2) ls i st
  | .lload_n k, 1 => ip_lload (pc + 1) ls k st
  | .lload i, 2 => ip_lload (pc + 2) ls i st
  | .aload_n k, 1 => ip_aload (pc + 1) ls k st
  | .aload i, 2 => ip_aload (pc + 2) ls i st
  | .istore_n k, 1 => ip_store (pc + 1) ls k st
  | .istore i, 2 => ip_store (pc + 2) ls i st
  | .astore_n k, 1 => ip_astore (pc + 1) ls k st
  | .astore i, 2 => ip_astore (pc + 2) ls i st
  | .iinc i n, 3 => (match ls[i]? with
    | some (.int x) => if ip_okst ls i = true then some (pc + 3, ls.set i (.int (x + Int32.ofInt n)), st) else none
    | _ => none)
  | .iadd, 1 => ip_bin pc ls st (fun x y => x + y)
  | .isub, 1 => ip_bin pc ls st (fun x y => x - y)
  | .imul, 1 => ip_bin pc ls st (fun x y => x * y)
  | .iand, 1 => ip_bin pc ls st (fun x y => x &&& y)
  | .ior, 1 => ip_bin pc ls st (fun x y => x ||| y)
  | .ixor, 1 => ip_bin pc ls st (fun x y => x ^^^ y)
  | .ishl, 1 => ip_bin pc ls st (fun x y => x <<< (y &&& 31))
  | .ishr, 1 => ip_bin pc ls st (fun x y => x >>> (y &&& 31))
  | .iushr, 1 => ip_bin pc ls st (fun x y => (x.toUInt32 >>> (y.toUInt32 &&& Int32.toUInt32 31)).toInt32)
  | .irem, 1 => (match st with
    | .int y :: .int x :: r => if y = 0 then none else some (pc + 1, ls, .int (x - x / y * y) :: r)
    | _ => none)
  | .i2l, 1 => (match st with
    | .int x :: r => some (pc + 1, ls, .long x.toInt64 :: r)
    | _ => none)
  | .lcmp, 1 => (match st with
    | .long y :: .long x :: r => some (pc + 1, ls, .int (lg_cmp x y) :: r)
    | _ => none)
  | .dup, 1 => (match st with
    | v :: r => if v.category = 1 then some (pc + 1, ls, v :: v :: r) else none
    | _ => none)
  | .pop, 1 => (match st with
    | v :: r => if v.category = 1 then some (pc + 1, ls, r) else none
    | _ => none)
  | .dup2, 1 => (match st with
    | v :: w :: r => if v.category = 1 ∧ w.category = 1 then some (pc + 1, ls, v :: w :: v :: w :: r) else none
    | _ => none)
  | .ifCond .eq off, 3 => ip_if1 pc ls st off (fun x => decide (x = 0))
  | .ifCond .ne off, 3 => ip_if1 pc ls st off (fun x => decide (¬ x = 0))
  | .ifCond .lt off, 3 => ip_if1 pc ls st off (fun x => decide (x < 0))
  | .ifCond .ge off, 3 => ip_if1 pc ls st off (fun x => decide (0 ≤ x))
  | .ifCond .gt off, 3 => ip_if1 pc ls st off (fun x => decide (0 < x))
  | .ifCond .le off, 3 => ip_if1 pc ls st off (fun x => decide (x ≤ 0))
  | .if_icmp .eq off, 3 => ip_if2 pc ls st off (fun x y => decide (x = y))
  | .if_icmp .ne off, 3 => ip_if2 pc ls st off (fun x y => decide (¬ x = y))
  | .if_icmp .lt off, 3 => ip_if2 pc ls st off (fun x y => decide (x < y))
  | .if_icmp .ge off, 3 => ip_if2 pc ls st off (fun x y => decide (y ≤ x))
  | .if_icmp .gt off, 3 => ip_if2 pc ls st off (fun x y => decide (y < x))
  | .if_icmp .le off, 3 => ip_if2 pc ls st off (fun x y => decide (x ≤ y))
  | .goto off, 3 => (match ip_tgt pc off with
    | some t => some (t, ls, st)
    | none => none)
  | .tableswitch d lo hi offs, _ => (match st with
    | .int x :: r => if x.toInt < lo ∨ hi < x.toInt then (match ip_tgt pc d with
        | some t => some (t, ls, r)
        | none => none) else (match offs[(x.toInt - lo).toNat]? with
        | some o => (match ip_tgt pc o with
          | some t => some (t, ls, r)
          | none => none)
        | none => none)
    | _ => none)
  | .lookupswitch d ps, _ => (match st with
    | .int x :: r => if (ps.toList.zip (ps.toList.drop 1)).all (fun (a, next) => a.1 < next.1) = true then (match ip_tgt pc (Op.lookupswitch.offset ps.toList d x.toInt) with
        | some t => some (t, ls, r)
        | none => none) else none
    | _ => none)
  | _, _ => none
