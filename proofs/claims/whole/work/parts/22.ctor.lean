/-! THE CONSTRUCTORS, by running the interpreter in the kernel (the heap and the locals are told anew at each step: so the kernel does not carry unevaluated rows) -/
def ip_fc {α : Type} : ip_H → (ip_H → α) → α
  | [], k => k []
  | q :: t, k => ip_fc t (fun t' => k (q :: t'))
theorem ip_fc_eq {α : Type} : ∀ (h : ip_H) (k : ip_H → α), ip_fc h k = k h
  | [], _ => rfl
  | q :: t, k => ip_fc_eq t (fun t' => k (q :: t'))
def ip_fl {α : Type} : List Value → (List Value → α) → α
  | [], k => k []
  | q :: t, k => ip_fl t (fun t' => k (q :: t'))
theorem ip_fl_eq {α : Type} : ∀ (h : List Value) (k : List Value → α), ip_fl h k = k h
  | [], _ => rfl
  | q :: t, k => ip_fl_eq t (fun t' => k (q :: t'))
def ip_rF (xs : Nat → Int32) (L : Nat) (fm : Value) : Nat → Nat → Nat → List Value → List Value → ip_H → Option (Option Value × ip_H)
  | 0, _, _, _, _, _ => none
  | n + 1, mi, pc, ls, st, h => match decode (ip_mB mi) pc with
    | .error _ => none
    | .ok (ins, len) => (match ip_s0 pc ins len ls st with
      | some (pc', ls', st') => ip_fl ls' (fun ls2 => ip_rF xs L fm n mi pc' ls2 st' h)
      | none => (match ip_sH xs L mi ins len st h with
        | some (st', h') => ip_fc h' (fun h2 => ip_rF xs L fm n mi (pc + len) ls st' h2)
        | none => (match ip_sS fm mi ins len st with
          | some st' => ip_rF xs L fm n mi (pc + len) ls st' h
          | none => (match ip_sA mi ins len ls st h with
            | some (st', h') => ip_fc h' (fun h2 => ip_rF xs L fm n mi (pc + len) ls st' h2)
            | none => (match ip_sR mi ins len st with
              | some r => some (r, h)
              | none => (match ip_call mi ins len st h with
                | some (cal, as, rest) => (match ip_rF xs L fm n cal 0 (ip_ent as (ip_mL cal)) [] h with
                  | some (r, h') => if h.length = h'.length ∨ (ip_wl h.length ls = true ∧ ip_wl h.length rest = true) then ip_rF xs L fm n mi (pc + 3) ls (r.toList ++ rest) h' else none
                  | none => none)
                | none => none))))))
theorem ip_rF_eq (xs : Nat → Int32) (L : Nat) (fm : Value) : ∀ (n mi pc : Nat) (ls st : List Value) (h : ip_H), ip_rF xs L fm n mi pc ls st h = ip_run xs L fm n mi pc ls st h := by
  intro n
  induction n with
  | zero => intros; rfl
  | succ n ih =>
    intro mi pc ls st h
    unfold ip_rF ip_run
    simp only [ip_fc_eq, ip_fl_eq, ih]
    rfl
def ip_i0 : List (Nat × List Int32) := [(2, [4, 4, 2, 2]),
  (3, [0, 1, 0, 1, 0, 1, 0, 1, 0, 1, 0, 1]),
  (4, [1, 2, 1, 2, 1, 2]),
  (5, [0, 1, 0, 1, 0, 1, 0, 1, 0, 1, 0, 1]),
  (6, [0, 0, 0, 0, 0, 0, 0, 0, 0, 0, 0, 0]),
  (7, [1, 1, 1, 1, 1, 1, 1, 1, 1, 1, 1, 1]),
  (86, [1, 0]),
  (88, [1, 0]),
  (90, [1, 0]),
  (93, [4, 4, 2, 2, 0, 1, 0, 1, 0, 1, 0, 1, 0, 1, 0, 1, 1, 2, 0, 0, 0, 0, 0, 1, 0, 1, 0, 1, 0, 1, 0, 1, 0, 1, 0, 0, 0, 0, 0, 0, 0, 0, 0, 0, 0, 0, 1, 1, 1, 1, 1, 1, 1, 1, 1, 1, 1, 1]),
  (97, [-1, -1, -1]),
  (101, [100, 114, 97, 102, 116, 100, 114, 97, 119, 0, 116, 105, 101, 0, 0, 116, 114, 101, 97, 100, 119, 97, 114, 112, 0, 119, 101, 102, 116, 0, 99, 108, 101, 97, 114, 114, 111, 119, 0, 0])]
def sg0 : ip_G := fun k i => (((ip_i0.find? (fun q => q.1 == k)).map (fun q => q.2)).getD []).getD i 0
def ip_x0 : Nat → Int32 := fun _ => 0
def ip_h1 : ip_H := (ip_mk sg0).take 92
def ip_d7 : Nat × List Value := (7, [.null, .null, .null, .null, .null, .null, .null, .null, .null])
def ip_d8 : Nat × List Value := (8, (ip_df[8]?).getD [])
