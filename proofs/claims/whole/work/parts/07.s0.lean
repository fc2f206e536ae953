/-! SOUNDNESS of the steps that touch neither heap nor tables -/
def ip_gv (ad : Nat → Nat) (v : Value) : Value := match v with
  | .ref k => .ref (ad k)
  | w => w
theorem ip_gv_cat (ad : Nat → Nat) (v : Value) : (ip_gv ad v).category = v.category := by cases v <;> rfl
def ip_lr (ad : Nat → Nat) (ls : List Value) (S : Array Slot) : Prop := S.size = ls.length ∧ lv_wf S ∧ ∀ (i : Nat) (v : Value), ls[i]? = some v → v ≠ ip_junk → S[i]? = some (.val (ip_gv ad v))
def ip_lvl (ad : Nat → Nat) (ls : List Value) : List (Nat × Value) := (List.range ls.length).filterMap (fun i => match ls[i]? with
  | some v => if v = ip_junk then none else some (i, ip_gv ad v)
  | none => none)
theorem ip_lvl_mem {ad : Nat → Nat} {ls : List Value} {q : Nat × Value} : q ∈ ip_lvl ad ls ↔ ∃ v, ls[q.1]? = some v ∧ v ≠ ip_junk ∧ q.2 = ip_gv ad v := by
  unfold ip_lvl
  rw [List.mem_filterMap]
  constructor
  · rintro ⟨i, hi, h⟩
    split at h
    · next v hv =>
      split at h
      · cases h
      · next hj =>
        cases h
        exact ⟨v, hv, hj, rfl⟩
    · cases h
  · rintro ⟨v, hv, hj, e⟩
    refine ⟨q.1, List.mem_range.mpr (List.getElem?_eq_some_iff.mp hv).1, ?_⟩
    rw [hv]
    simp only [hj, if_false]
    rw [← e]
theorem ip_lr_has {ad : Nat → Nat} {ls : List Value} {S : Array Slot} (h : ip_lr ad ls S) : lv_has S ls.length (ip_lvl ad ls) := by
  refine ⟨h.1, h.2.1, fun q hq => ?_⟩
  obtain ⟨v, h1, h2, h3⟩ := ip_lvl_mem.mp hq
  rw [h3]
  exact h.2.2 q.1 v h1 h2
theorem ip_okst_lt {ls : List Value} {i : Nat} (h : ip_okst ls i = true) : i < ls.length := by
  unfold ip_okst at h
  rw [Bool.and_eq_true, decide_eq_true_eq] at h
  exact h.1
theorem ip_okst_cat {ls : List Value} {j : Nat} {v : Value} (h : ip_okst ls (j + 1) = true) (hv : ls[j]? = some v) : v.category = 1 := by
  unfold ip_okst at h
  rw [Bool.and_eq_true] at h
  have h2 := h.2
  simp only [hv] at h2
  exact eq_of_beq h2
theorem ip_lr_store {ad : Nat → Nat} {ls : List Value} {i : Nat} {v : Value} (hok : ip_okst ls i = true) {S' : Array Slot} (h : lv_has S' ls.length ((i, ip_gv ad v) :: (ip_lvl ad ls).filter (fun q => !(q.1 == i) && !(q.1 + 1 == i && q.2.category == 2)))) : ip_lr ad (ls.set i v) S' := by
  refine ⟨by rw [List.length_set]; exact h.1, h.2.1, fun j w hw hj => ?_⟩
  by_cases e : j = i
  · subst e
    rw [List.getElem?_set_self (ip_okst_lt hok)] at hw
    cases hw
    exact h.2.2 (j, ip_gv ad v) List.mem_cons_self
  · rw [List.getElem?_set_ne (Ne.symm e)] at hw
    refine h.2.2 (j, ip_gv ad w) (List.mem_cons_of_mem _ (List.mem_filter.mpr ⟨ip_lvl_mem.mpr ⟨w, hw, hj, rfl⟩, ?_⟩))
    have h1 : (j == i) = false := by simpa using e
    have h2 : (j + 1 == i && (ip_gv ad w).category == 2) = false := by
      by_cases e2 : j + 1 = i
      · subst e2
        rw [ip_gv_cat, ip_okst_cat hok hw]
        simp
      · simp [e2]
    simp only [h1, h2]
    rfl
theorem ip_tgt_spec {pc : Nat} {off : Int} {t : Nat} (h : ip_tgt pc off = some t) : (pc : Int) + off = (t : Int) := by
  unfold ip_tgt at h
  split at h
  · cases h
    omega
  · cases h
theorem ip_bin_inv {pc : Nat} {ls st : List Value} {f : Int32 → Int32 → Int32} {o : Nat × List Value × List Value} (h : ip_bin pc ls st f = some o) : ∃ (x y : Int32) (r : List Value), st = .int y :: .int x :: r ∧ o = (pc + 1, ls, .int (f x y) :: r) := by
  unfold ip_bin at h
  split at h
  · next y x r => cases h; exact ⟨x, y, r, rfl, rfl⟩
  · cases h
theorem ip_load_inv {pc i : Nat} {ls st : List Value} {o : Nat × List Value × List Value} (h : ip_load pc ls i st = some o) : ∃ x : Int32, ls[i]? = some (.int x) ∧ o = (pc, ls, .int x :: st) := by
  unfold ip_load at h
  split at h
  · next x hx => cases h; exact ⟨x, hx, rfl⟩
  · cases h
theorem ip_lload_inv {pc i : Nat} {ls st : List Value} {o : Nat × List Value × List Value} (h : ip_lload pc ls i st = some o) : ∃ x : Int64, ls[i]? = some (.long x) ∧ o = (pc, ls, .long x :: st) := by
  unfold ip_lload at h
  split at h
  · next x hx => cases h; exact ⟨x, hx, rfl⟩
  · cases h
theorem ip_aload_inv {pc i : Nat} {ls st : List Value} {o : Nat × List Value × List Value} (h : ip_aload pc ls i st = some o) : ∃ x : Nat, ls[i]? = some (.ref x) ∧ o = (pc, ls, .ref x :: st) := by
  unfold ip_aload at h
  split at h
  · next x hx => cases h; exact ⟨x, hx, rfl⟩
  · cases h
theorem ip_store_inv {pc i : Nat} {ls st : List Value} {o : Nat × List Value × List Value} (h : ip_store pc ls i st = some o) : ∃ (x : Int32) (r : List Value), st = .int x :: r ∧ ip_okst ls i = true ∧ o = (pc, ls.set i (.int x), r) := by
  unfold ip_store at h
  split at h
  · next x r =>
    split at h
    · next hk => cases h; exact ⟨x, r, rfl, hk, rfl⟩
    · cases h
  · cases h
theorem ip_astore_inv {pc i : Nat} {ls st : List Value} {o : Nat × List Value × List Value} (h : ip_astore pc ls i st = some o) : ∃ (x : Nat) (r : List Value), st = .ref x :: r ∧ ip_okst ls i = true ∧ o = (pc, ls.set i (.ref x), r) := by
  unfold ip_astore at h
  split at h
  · next x r =>
    split at h
    · next hk => cases h; exact ⟨x, r, rfl, hk, rfl⟩
    · cases h
  · cases h
theorem ip_br_inv {pc : Nat} {ls r : List Value} {off : Int} {b : Bool} {o : Nat × List Value × List Value} (h : ip_br pc ls r off b = some o) : ∃ t : Nat, (pc : Int) + off = (t : Int) ∧ o = (if b = true then t else pc + 3, ls, r) := by
  unfold ip_br at h
  split at h
  · next t ht => cases h; exact ⟨t, ip_tgt_spec ht, rfl⟩
  · cases h
theorem ip_if1_inv {pc : Nat} {ls st : List Value} {off : Int} {f : Int32 → Bool} {o : Nat × List Value × List Value} (h : ip_if1 pc ls st off f = some o) : ∃ (x : Int32) (r : List Value) (t : Nat), st = .int x :: r ∧ (pc : Int) + off = (t : Int) ∧ o = (if f x = true then t else pc + 3, ls, r) := by
  unfold ip_if1 at h
  split at h
  · next x r => obtain ⟨t, h1, h2⟩ := ip_br_inv h; exact ⟨x, r, t, rfl, h1, h2⟩
  · cases h
theorem ip_if2_inv {pc : Nat} {ls st : List Value} {off : Int} {f : Int32 → Int32 → Bool} {o : Nat × List Value × List Value} (h : ip_if2 pc ls st off f = some o) : ∃ (x y : Int32) (r : List Value) (t : Nat), st = .int y :: .int x :: r ∧ (pc : Int) + off = (t : Int) ∧ o = (if f x y = true then t else pc + 3, ls, r) := by
  unfold ip_if2 at h
  split at h
  · next y x r => obtain ⟨t, h1, h2⟩ := ip_br_inv h; exact ⟨x, y, r, t, rfl, h1, h2⟩
  · cases h
theorem ip_ifT {P : Prop} (hd : Decidable P) (hp : P) (a b : Nat) : (if (@decide P hd) = true then a else b) = a := by simp [hp]
theorem ip_ifF {P : Prop} (hd : Decidable P) (hp : ¬ P) (a b : Nat) : (if (@decide P hd) = true then a else b) = b := by simp [hp]
section SND
variable {p : Program} {l : Launch} {e : Env} {R : Room} {s : State} {m : MethodId} {args : Array Value} {below : List Frame} {meth : Method} {c : Code} {H : Heap} {locs : List Loc} {cells slots : Nat} {Q : State → Prop}
variable {cc : ByteArray} {pc : Nat} {ad : Nat → Nat} {ls st : List Value} {S : Array Slot}
/-- the goal behind a step -/
def ip_go (p : Program) (l : Launch) (e : Env) (R : Room) (s : State) (m : MethodId) (args : Array Value) (below : List Frame) (meth : Method) (c : Code) (H : Heap) (locs : List Loc) (cells slots : Nat) (Q : State → Prop) (ad : Nat → Nat) (o : Nat × List Value × List Value) : Prop :=
  ∀ S' : Array Slot, ip_lr ad o.2.1 S' → W p l e R s m args below meth c H locs cells slots Q (F0 m o.1 S' (o.2.2.map (ip_gv ad)))
set_option maxHeartbeats 1000000 in
theorem ip_s0_W (hx : p.tables.exec = Jvm.exec) (hb : c.code = cc) {ins : Instr} {len : Nat} (hd : decode cc pc = .ok (ins, len)) {o : Nat × List Value × List Value} (h : ip_s0 pc ins len ls st = some o) (hl : ip_lr ad ls S) (k : ip_go p l e R s m args below meth c H locs cells slots Q ad o) : W p l e R s m args below meth c H locs cells slots Q (F0 m pc S (st.map (ip_gv ad))) := by
  unfold ip_s0 at h
  split at h
  · cases h; exact lv_iconst hx hb hd rfl (k S hl)
  · cases h; exact lv_bipush hx hb hd rfl (k S hl)
  · cases h; exact lv_sipush hx hb hd rfl (k S hl)
  · cases h; exact lv_lconst hx hb hd rfl (k S hl)
  · obtain ⟨x, h1, rfl⟩ := ip_load_inv h
    exact lv_iload_n hx hb hd rfl (hl.2.2 _ _ h1 (by simp [ip_junk])) (k S hl)
  · obtain ⟨x, h1, rfl⟩ := ip_load_inv h
    exact lv_iload hx hb hd (hl.2.2 _ _ h1 (by simp [ip_junk])) (k S hl)
  · obtain ⟨x, h1, rfl⟩ := ip_lload_inv h
    exact lv_lload_n hx hb hd rfl (hl.2.2 _ _ h1 (by simp [ip_junk])) (k S hl)
  · obtain ⟨x, h1, rfl⟩ := ip_lload_inv h
    exact lv_lload hx hb hd (hl.2.2 _ _ h1 (by simp [ip_junk])) (k S hl)
  · obtain ⟨x, h1, rfl⟩ := ip_aload_inv h
    exact lv_aload_n hx hb hd rfl (hl.2.2 _ _ h1 (by simp [ip_junk])) (k S hl)
  · obtain ⟨x, h1, rfl⟩ := ip_aload_inv h
    exact lv_aload hx hb hd (hl.2.2 _ _ h1 (by simp [ip_junk])) (k S hl)
  · obtain ⟨x, r, rfl, h1, rfl⟩ := ip_store_inv h
    exact lv_istore_n hx hb hd rfl (ip_lr_has hl) (ip_okst_lt h1) rfl (fun S2 h2 => k S2 (ip_lr_store (v := .int x) h1 h2))
  · obtain ⟨x, r, rfl, h1, rfl⟩ := ip_store_inv h
    exact lv_istore hx hb hd (ip_lr_has hl) (ip_okst_lt h1) rfl (fun S2 h2 => k S2 (ip_lr_store (v := .int x) h1 h2))
  · obtain ⟨x, r, rfl, h1, rfl⟩ := ip_astore_inv h
    exact lv_astore_n hx hb hd rfl (ip_lr_has hl) (ip_okst_lt h1) rfl (fun S2 h2 => k S2 (ip_lr_store (v := .ref x) h1 h2))
  · obtain ⟨x, r, rfl, h1, rfl⟩ := ip_astore_inv h
    exact lv_astore hx hb hd (ip_lr_has hl) (ip_okst_lt h1) rfl (fun S2 h2 => k S2 (ip_lr_store (v := .ref x) h1 h2))
  · split at h
    · next i n _ x hi =>
      split at h
      · next hk =>
        cases h
        obtain ⟨k0, hk0⟩ := List.getElem?_of_mem (ip_lvl_mem.mpr ⟨_, hi, by simp [ip_junk], rfl⟩ : ((i, ip_gv ad (.int x)) : Nat × Value) ∈ ip_lvl ad ls)
        exact lv_iinc hx hb hd (ip_lr_has hl) hk0 rfl (ip_okst_lt hk) rfl (fun S2 h2 => k S2 (ip_lr_store (v := .int _) hk h2))
      · cases h
    · cases h
  · obtain ⟨x, y, r, rfl, rfl⟩ := ip_bin_inv h
    exact lv_iadd hx hb hd (k S hl)
  · obtain ⟨x, y, r, rfl, rfl⟩ := ip_bin_inv h
    exact lv_isub hx hb hd (k S hl)
  · obtain ⟨x, y, r, rfl, rfl⟩ := ip_bin_inv h
    exact lv_imul hx hb hd (k S hl)
  · obtain ⟨x, y, r, rfl, rfl⟩ := ip_bin_inv h
    exact lv_iand hx hb hd (k S hl)
  · obtain ⟨x, y, r, rfl, rfl⟩ := ip_bin_inv h
    exact lv_ior hx hb hd (k S hl)
  · obtain ⟨x, y, r, rfl, rfl⟩ := ip_bin_inv h
    exact lv_ixor hx hb hd (k S hl)
  · obtain ⟨x, y, r, rfl, rfl⟩ := ip_bin_inv h
    exact lv_ishl hx hb hd (k S hl)
  · obtain ⟨x, y, r, rfl, rfl⟩ := ip_bin_inv h
    exact lv_ishr hx hb hd (k S hl)
  · obtain ⟨x, y, r, rfl, rfl⟩ := ip_bin_inv h
    exact lv_iushr hx hb hd rfl (k S hl)
  · split at h
    · split at h
      · cases h
      · next hne => cases h; exact lv_irem hx hb hd hne (k S hl)
    · cases h
  · split at h
    · cases h; exact lv_i2l hx hb hd rfl (k S hl)
    · cases h
  · split at h
    · cases h; exact W.lcmp hx hb hd (k S hl)
    · cases h
  · split at h
    · split at h
      · next hc => cases h; exact lv_dup hx hb hd (by rw [ip_gv_cat]; exact hc) (k S hl)
      · cases h
    · cases h
  · split at h
    · split at h
      · next hc => cases h; exact lv_pop hx hb hd (by rw [ip_gv_cat]; exact hc) (k S hl)
      · cases h
    · cases h
  · split at h
    · split at h
      · next hc => cases h; exact lv_dup2_11 hx hb hd (by rw [ip_gv_cat]; exact hc.1) (by rw [ip_gv_cat]; exact hc.2) (k S hl)
      · cases h
    · cases h
  · obtain ⟨x, r, t, rfl, ht, rfl⟩ := ip_if1_inv h
    exact lv_if_eq hx hb hd ht (fun hc => by have k2 := k S hl; simp only [ip_ifT _ hc] at k2; exact k2) (fun hc => by have k2 := k S hl; simp only [ip_ifF _ hc] at k2; exact k2)
  · obtain ⟨x, r, t, rfl, ht, rfl⟩ := ip_if1_inv h
    exact lv_if_ne hx hb hd ht (fun hc => by have k2 := k S hl; simp only [ip_ifT _ hc] at k2; exact k2) (fun hc => by have k2 := k S hl; simp only [ip_ifF (P := ¬ x = 0) _ (fun z => z hc)] at k2; exact k2)
  · obtain ⟨x, r, t, rfl, ht, rfl⟩ := ip_if1_inv h
    exact lv_if_lt hx hb hd ht (fun hc => by have k2 := k S hl; simp only [ip_ifT _ hc] at k2; exact k2) (fun hc => by have k2 := k S hl; simp only [ip_ifF _ hc] at k2; exact k2)
  · obtain ⟨x, r, t, rfl, ht, rfl⟩ := ip_if1_inv h
    exact lv_if_ge hx hb hd ht (fun hc => by have k2 := k S hl; simp only [ip_ifT _ hc] at k2; exact k2) (fun hc => by have k2 := k S hl; simp only [ip_ifF _ hc] at k2; exact k2)
  · obtain ⟨x, r, t, rfl, ht, rfl⟩ := ip_if1_inv h
    exact lv_if_gt hx hb hd ht (fun hc => by have k2 := k S hl; simp only [ip_ifT _ hc] at k2; exact k2) (fun hc => by have k2 := k S hl; simp only [ip_ifF _ hc] at k2; exact k2)
  · obtain ⟨x, r, t, rfl, ht, rfl⟩ := ip_if1_inv h
    exact lv_if_le hx hb hd ht (fun hc => by have k2 := k S hl; simp only [ip_ifT _ hc] at k2; exact k2) (fun hc => by have k2 := k S hl; simp only [ip_ifF _ hc] at k2; exact k2)
  · obtain ⟨x, y, r, t, rfl, ht, rfl⟩ := ip_if2_inv h
    exact lv_icmp_eq hx hb hd ht (fun hc => by have k2 := k S hl; simp only [ip_ifT _ hc] at k2; exact k2) (fun hc => by have k2 := k S hl; simp only [ip_ifF _ hc] at k2; exact k2)
  · obtain ⟨x, y, r, t, rfl, ht, rfl⟩ := ip_if2_inv h
    exact lv_icmp_ne hx hb hd ht (fun hc => by have k2 := k S hl; simp only [ip_ifT _ hc] at k2; exact k2) (fun hc => by have k2 := k S hl; simp only [ip_ifF (P := ¬ x = y) _ (fun z => z hc)] at k2; exact k2)
  · obtain ⟨x, y, r, t, rfl, ht, rfl⟩ := ip_if2_inv h
    exact lv_icmp_lt hx hb hd ht (fun hc => by have k2 := k S hl; simp only [ip_ifT _ hc] at k2; exact k2) (fun hc => by have k2 := k S hl; simp only [ip_ifF _ hc] at k2; exact k2)
  · obtain ⟨x, y, r, t, rfl, ht, rfl⟩ := ip_if2_inv h
    exact lv_icmp_ge hx hb hd ht (fun hc => by have k2 := k S hl; simp only [ip_ifT _ hc] at k2; exact k2) (fun hc => by have k2 := k S hl; simp only [ip_ifF _ hc] at k2; exact k2)
  · obtain ⟨x, y, r, t, rfl, ht, rfl⟩ := ip_if2_inv h
    exact lv_icmp_gt hx hb hd ht (fun hc => by have k2 := k S hl; simp only [ip_ifT _ hc] at k2; exact k2) (fun hc => by have k2 := k S hl; simp only [ip_ifF _ hc] at k2; exact k2)
  · obtain ⟨x, y, r, t, rfl, ht, rfl⟩ := ip_if2_inv h
    exact lv_icmp_le hx hb hd ht (fun hc => by have k2 := k S hl; simp only [ip_ifT _ hc] at k2; exact k2) (fun hc => by have k2 := k S hl; simp only [ip_ifF _ hc] at k2; exact k2)
  · split at h
    · next t ht => cases h; exact lv_goto hx hb hd (ip_tgt_spec ht) (k S hl)
    · cases h
  · split at h
    · split at h
      · next hc =>
        split at h
        · next t ht => cases h; exact lv_tableOut hx hb hd hc (ip_tgt_spec ht) (k S hl)
        · cases h
      · next hc =>
        split at h
        · next o2 ho =>
          split at h
          · next t ht => cases h; exact lv_tableIn hx hb hd (fun z => hc (Or.inl z)) (fun z => hc (Or.inr z)) ho (ip_tgt_spec ht) (k S hl)
          · cases h
        · cases h
    · cases h
  · split at h
    · split at h
      · next hp =>
        split at h
        · next t ht => cases h; exact lv_lookup hx hb hd hp rfl (ip_tgt_spec ht) (k S hl)
        · cases h
      · cases h
    · cases h
  · cases h
end SND
