/-! THE INTERPRETER, heap and calls -/
def ip_wv (n : Nat) (v : Value) : Bool := match v with
  | .ref k => decide (k < n) || decide (1000000 ≤ k)
  | _ => true
def ip_wl (n : Nat) (l : List Value) : Bool := l.all (ip_wv n)
def ip_wh (n : Nat) (h : ip_H) : Bool := h.all (fun q => ip_wl n q.2)
def ip_in (i : Int32) (n : Nat) : Bool := decide (¬ (i < 0 ∨ n ≤ i.toNatClampNeg))
def ip_bit (x : Int32) : Bool := decide (x = 0) || decide (x = 1)
def ip_isInit (mi : Nat) : Bool := decide ((ip_mY mi).name = "<init>")
/-- a value that a field of a kind takes -/
def ip_fit (mi : Nat) (ci : Nat) (kind : Nat) (v : Value) : Bool := match kind, v with
  | 0, .int _ => true
  | 1, .int x => ip_bit x
  | 2, .ref _ => ip_isInit mi && decide ((vwCl[ci]?).map (fun q => q.1) = some (ip_on (ip_mO mi)))
  | _, _ => false
/-- reads and writes of the heap, and the built-in calls -/
def ip_sH (xs : Nat → Int32) (L : Nat) (mi : Nat) (ins : Instr) (len : Nat) (st : List Value) (h : ip_H) : Option (List Value × ip_H) := match ins, len with
  | .getfield i, 3 => (match st with
    | .ref k :: r => (match ip_fld (ip_mO mi) i with
      | some (ci, sl, _) => (match h[k]? with
        | some (tag, vs) => if tag = ci ∧ ci < 100 then (match vs[sl]? with
          | some v => some (v :: r, h)
          | none => none) else none
        | none => none)
      | none => none)
    | _ => none)
  | .putfield i, 3 => (match st with
    | v :: .ref k :: r => (match ip_fld (ip_mO mi) i with
      | some (ci, sl, kind) => (match h[k]? with
        | some (tag, vs) => if tag = ci ∧ ci < 100 ∧ sl < vs.length ∧ ip_fit mi ci kind v = true then some (r, h.set k (ci, vs.set sl v)) else none
        | none => none)
      | none => none)
    | _ => none)
  | .iaload, 1 => (match st with
    | .int i :: .ref k :: r => if k = 1000000 then (if mi = ip_law ∧ ip_in i L = true then some (.int (xs i.toNatClampNeg) :: r, h) else none) else (match h[k]? with
      | some (tag, vs) => if tag = 100 ∧ ip_in i vs.length = true then (match vs[i.toNatClampNeg]? with
        | some v => some (v :: r, h)
        | none => none) else none
      | none => none)
    | _ => none)
  | .baload, 1 => (match st with
    | .int i :: .ref k :: r => (match h[k]? with
      | some (tag, vs) => if tag = 101 ∧ ip_in i vs.length = true then (match vs[i.toNatClampNeg]? with
        | some v => some (v :: r, h)
        | none => none) else none
      | none => none)
    | _ => none)
  | .aaload, 1 => (match st with
    | .int i :: .ref k :: r => (match h[k]? with
      | some (tag, vs) => if 200 ≤ tag ∧ ip_in i vs.length = true then (match vs[i.toNatClampNeg]? with
        | some v => some (v :: r, h)
        | none => none) else none
      | none => none)
    | _ => none)
  | .iastore, 1 => (match st with
    | .int x :: .int i :: .ref k :: r => (match h[k]? with
      | some (tag, vs) => if tag = 100 ∧ ip_in i vs.length = true then some (r, h.set k (100, vs.set i.toNatClampNeg (.int x))) else none
      | none => none)
    | _ => none)
  | .bastore, 1 => (match st with
    | .int x :: .int i :: .ref k :: r => (match h[k]? with
      | some (tag, vs) => if tag = 101 ∧ ip_in i vs.length = true ∧ ip_bit x = true then some (r, h.set k (101, vs.set i.toNatClampNeg (.int x))) else none
      | none => none)
    | _ => none)
  | .aastore, 1 => (match st with
    | .ref v :: .int i :: .ref k :: r => (match h[k]?, h[v]? with
      | some (tag, vs), some (tag2, _) => if tag = 200 + tag2 ∧ tag2 < 100 ∧ ip_in i vs.length = true then some (r, h.set k (tag, vs.set i.toNatClampNeg (.ref v))) else none
      | _, _ => none)
    | _ => none)
  | .arraylength, 1 => (match st with
    | .ref k :: r => if k = 1000000 ∧ mi = ip_law then some (.int (nI L) :: r, h) else none
    | _ => none)
  | .ldc2_w i, 3 => (match ip_lc (ip_mO mi) i with
    | some v => some (.long v :: st, h)
    | none => none)
  | .ldc_w i, 3 => (match ip_kc (ip_mO mi) i with
    | some v => some (.int v :: st, h)
    | none => none)
  | .invokespecial i, 3 => (match st with
    | .ref k :: r => if ip_prm (ip_mO mi) i = some 10 ∧ r.length ≤ 4 then some (r, h) else none
    | _ => none)
  | .invokestatic i, 3 => (match ip_prm (ip_mO mi) i with
    | some 11 => (match st with
      | .int y :: .int x :: r => if r.length ≤ 4 then some (.int (if x < y then y else x) :: r, h) else none
      | _ => none)
    | some 12 => (match st with
      | .int y :: .int x :: r => if r.length ≤ 4 then some (.int (if y < x then y else x) :: r, h) else none
      | _ => none)
    | some 13 => (match st with
      | .int n :: .int dp :: .ref a :: .int sp :: .ref b :: r => (match h[b]?, h[a]? with
        | some (t0, vs), some (t1, us) => if t0 = 100 ∧ t1 = 100 ∧ sp = 0 ∧ dp = 0 ∧ ¬ n < 0 ∧ n.toNatClampNeg ≤ vs.length ∧ n.toNatClampNeg ≤ us.length ∧ r.length ≤ 4 then some (r, h.set a (100, vs.take n.toNatClampNeg ++ us.drop n.toNatClampNeg)) else none
        | _, _ => none)
      | _ => none)
    | _ => none)
  | _, _ => none
/-- what makes cells -/
def ip_sA (mi : Nat) (ins : Instr) (len : Nat) (ls st : List Value) (h : ip_H) : Option (List Value × ip_H) :=
  if ip_wl h.length ls = true ∧ ip_wl h.length st = true ∧ ip_wh h.length h = true ∧ h.length < 1000000 then (match ins, len with
  | .new i, 3 => (match ip_lk ip_nt (ip_mO mi) i with
    | some ci => (match ip_df[ci]? with
      | some fs => some (.ref h.length :: st, h ++ [(ci, fs)])
      | none => none)
    | none => none)
  | .newarray .int, 2 => (match st with
    | .int n :: r => if ¬ n < 0 ∧ n.toNatClampNeg ≤ 100000 then some (.ref h.length :: r, h ++ [(100, List.replicate n.toNatClampNeg (.int 0))]) else none
    | _ => none)
  | .newarray .boolean, 2 => (match st with
    | .int n :: r => if ¬ n < 0 ∧ n.toNatClampNeg ≤ 100000 then some (.ref h.length :: r, h ++ [(101, List.replicate n.toNatClampNeg (.int 0))]) else none
    | _ => none)
  | .anewarray i, 3 => (match st with
    | .int n :: r => (match ip_lk ip_at (ip_mO mi) i with
      | some ci => if ¬ n < 0 ∧ n.toNatClampNeg ≤ 100000 then some (.ref h.length :: r, h ++ [(200 + ci, List.replicate n.toNatClampNeg .null)]) else none
      | none => none)
    | _ => none)
  | _, _ => none) else none
def ip_sb (j : Nat) : List Int32 := ((ip_sk[j]?).map (fun q => q.2.2)).getD []
/-- string constants: 2000000 + j is the text, 3000000 + j its bytes -/
def ip_sS (fm : Value) (mi : Nat) (ins : Instr) (len : Nat) (st : List Value) : Option (List Value) := match ins, len with
  | .ldc i, 2 => if ip_mO mi = ip_oR then (match ip_sk.findIdx? (fun q => q.1 == i) with
    | some j => some (.ref (2000000 + j) :: st)
    | none => none) else none
  | .getfield i, 3 => (match st with
    | .ref q :: r => if 2000000 ≤ q ∧ q < 2000008 ∧ ip_mO mi = ip_oS then (if i = 9 then some (.ref (q + 1000000) :: r) else if i = 15 then some (.int 0 :: r) else none) else none
    | _ => none)
  | .arraylength, 1 => (match st with
    | .ref q :: r => if 3000000 ≤ q ∧ q < 3000008 then some (.int (nI (ip_sb (q - 3000000)).length) :: r) else none
    | _ => none)
  | .baload, 1 => (match st with
    | .int i :: .ref q :: r => if 3000000 ≤ q ∧ q < 3000008 ∧ ip_in i (ip_sb (q - 3000000)).length = true then some (.int ((ip_sb (q - 3000000)).getD i.toNatClampNeg 0) :: r) else none
    | _ => none)
  | .getstatic i, 3 => if ip_mO mi = ip_oS then (if i = 38 then some (.int 1 :: st) else if i = 1053 then some (fm :: st) else none) else none
  | .i2c, 1 => (match st with
    | .int x :: r => some (.int (x.toUInt32 % 65536).toInt32 :: r)
    | _ => none)
  | _, _ => none
/-- the ends -/
def ip_sR (mi : Nat) (ins : Instr) (len : Nat) (st : List Value) : Option (Option Value) := match ins, len, st with
  | .ireturn, 1, [.int v] => (match ip_mR mi with
    | some ty => if narrow ty (.int v) = .int v then some (some (.int v)) else none
    | none => none)
  | .areturn, 1, [.ref k] => (match ip_mR mi with
    | some (.object _) => some (some (.ref k))
    | _ => none)
  | .return_, 1, [] => (match ip_mR mi with
    | none => some none
    | _ => none)
  | _, _, _ => none
def ip_ent1 (vs : List Value) : List Value := vs.flatMap (fun v => if v.category = 2 then [v, ip_junk] else [v])
def ip_ent (vs : List Value) (n : Nat) : List Value := ip_ent1 vs ++ List.replicate (n - (ip_ent1 vs).length) ip_junk
def ip_kind (ins : Instr) : Option (Nat × Nat) := match ins with
  | .invokevirtual i => some (0, i)
  | .invokestatic i => some (1, i)
  | .invokespecial i => some (2, i)
  | _ => none
/-- the receiver is of the method's class -/
def ip_rcv (cal q : Nat) (h : ip_H) : Bool := match h[q]? with
  | some (tag, _) => decide (tag < 100 ∧ (vwCl[tag]?).map (fun c => c.1) = some (ip_mY cal).cls)
  | none => decide (2000000 ≤ q ∧ q < 2000008 ∧ (ip_mY cal).cls = "java/lang/String")
/-- a call: the method, its arguments (with the receiver), what stays on the stack -/
def ip_call (mi : Nat) (ins : Instr) (len : Nat) (st : List Value) (h : ip_H) : Option (Nat × List Value × List Value) := match ip_kind ins with
  | some (k, i) => (match ip_cal (ip_mO mi) i with
    | some (kind, cal, n) =>
      let a := if k = 1 then n else n + 1
      if len = 3 ∧ (k = kind ∨ k = 2 ∧ kind = 3) ∧ a ≤ st.length ∧ (st.drop a).length ≤ 4 ∧ ip_mV cal < ip_mV mi ∧ (ip_ent1 (st.take a).reverse).length ≤ ip_mL cal then
        (if k = 1 then some (cal, (st.take a).reverse, st.drop a) else (match st[n]? with
          | some (.ref q) => if ip_rcv cal q h = true then some (cal, (st.take a).reverse, st.drop a) else none
          | _ => none))
      else none
    | none => none)
  | none => none
def ip_run (xs : Nat → Int32) (L : Nat) (fm : Value) : Nat → Nat → Nat → List Value → List Value → ip_H → Option (Option Value × ip_H)
  | 0, _, _, _, _, _ => none
  | n + 1, mi, pc, ls, st, h => match decode (ip_mB mi) pc with
    | .error _ => none
    | .ok (ins, len) => (match ip_s0 pc ins len ls st with
      | some (pc', ls', st') => ip_run xs L fm n mi pc' ls' st' h
      | none => (match ip_sH xs L mi ins len st h with
        | some (st', h') => ip_run xs L fm n mi (pc + len) ls st' h'
        | none => (match ip_sS fm mi ins len st with
          | some st' => ip_run xs L fm n mi (pc + len) ls st' h
          | none => (match ip_sA mi ins len ls st h with
            | some (st', h') => ip_run xs L fm n mi (pc + len) ls st' h'
            | none => (match ip_sR mi ins len st with
              | some r => some (r, h)
              | none => (match ip_call mi ins len st h with
                | some (cal, as, rest) => (match ip_run xs L fm n cal 0 (ip_ent as (ip_mL cal)) [] h with
                  | some (r, h') => if h.length = h'.length ∨ (ip_wl h.length ls = true ∧ ip_wl h.length rest = true) then ip_run xs L fm n mi (pc + 3) ls (r.toList ++ rest) h' else none
                  | none => none)
                | none => none))))))
