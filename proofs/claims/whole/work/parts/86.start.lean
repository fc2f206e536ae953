/-! THE CONSTRUCTORS AND THE LAW'S START -/
theorem ct_cal : ∀ q ∈ ip_ct0 ++ ip_ct1, q.2.2.2.1 ≠ ip_law := by decide +kernel
theorem call_law {mi : Nat} {ins : Instr} {len : Nat} {st : List Value} {H : ip_H} {cal : Nat} {as rest : List Value} (h : ip_call mi ins len st H = some (cal, as, rest)) : cal ≠ ip_law := by
  obtain ⟨-, -, -, -, -, hk⟩ := ip_call_inv h
  rcases hk with ⟨i, n, -, hcal, -⟩ | ⟨i, n, kind, q, as0, -, hcal, -⟩
  · exact ct_cal _ (ip_find hcal)
  · exact ct_cal _ (ip_find hcal)
theorem sH_ind {xs ys : Nat → Int32} {L M mi : Nat} {ins : Instr} {len : Nat} {st : List Value} {H : ip_H} (h : mi ≠ ip_law) : ip_sH xs L mi ins len st H = ip_sH ys M mi ins len st H := by
  simp only [ip_sH, h, false_and, and_false, ↓reduceIte]
theorem run_step {xs ys : Nat → Int32} {L M : Nat} {fm : Value} {Q : Nat → Prop} (hH : ∀ (mi : Nat) (ins : Instr) (len : Nat) (st : List Value) (H : ip_H), Q mi → ip_sH xs L mi ins len st H = ip_sH ys M mi ins len st H) (hQ : ∀ (mi : Nat) (ins : Instr) (len : Nat) (st : List Value) (H : ip_H) (cal : Nat) (as rest : List Value), Q mi → ip_call mi ins len st H = some (cal, as, rest) → Q cal) {n m : Nat} (ih : ∀ (mi pc : Nat) (ls st : List Value) (H : ip_H) (o : Option Value × ip_H), Q mi → ip_run xs L fm n mi pc ls st H = some o → ip_run ys M fm m mi pc ls st H = some o) : ∀ (mi pc : Nat) (ls st : List Value) (H : ip_H) (o : Option Value × ip_H), Q mi → ip_run xs L fm (n + 1) mi pc ls st H = some o → ip_run ys M fm (m + 1) mi pc ls st H = some o := by
  intro mi pc ls st H o hq h
  unfold ip_run at h
  unfold ip_run
  split at h
  · cases h
  · next ins len hd =>
    (try simp only [hd])
    split at h
    · next hs => (try simp only [hs]); exact ih _ _ _ _ _ _ hq h
    · next hs =>
      (try simp only [hs])
      rw [hH mi ins len st H hq] at h
      split at h
      · next ht => (try simp only [ht]); exact ih _ _ _ _ _ _ hq h
      · next ht =>
        (try simp only [ht])
        split at h
        · next hS => (try simp only [hS]); exact ih _ _ _ _ _ _ hq h
        · next hS =>
          (try simp only [hS])
          split at h
          · next hA => (try simp only [hA]); exact ih _ _ _ _ _ _ hq h
          · next hA =>
            (try simp only [hA])
            split at h
            · next hR => (try simp only [hR]); exact h
            · next hR =>
              (try simp only [hR])
              split at h
              · next cal as rest hc =>
                (try simp only [hc])
                split at h
                · next hr1 =>
                  simp only [ih _ _ _ _ _ _ (hQ _ _ _ _ _ _ _ _ hq hc) hr1]
                  split at h
                  · next hw => rw [if_pos hw]; exact ih _ _ _ _ _ _ hq h
                  · cases h
                · cases h
              · cases h
theorem run_up {xs : Nat → Int32} {L : Nat} {fm : Value} : ∀ (n mi pc : Nat) (ls st : List Value) (H : ip_H) (o : Option Value × ip_H), ip_run xs L fm n mi pc ls st H = some o → ip_run xs L fm (n + 1) mi pc ls st H = some o := by
  intro n
  induction n with
  | zero => intro mi pc ls st H o h; simp [ip_run] at h
  | succ n ih =>
    intro mi pc ls st H o h
    exact run_step (Q := fun _ => True) (fun _ _ _ _ _ _ => rfl) (fun _ _ _ _ _ _ _ _ _ _ => trivial) (fun mi pc ls st H o _ h => ih mi pc ls st H o h) mi pc ls st H o trivial h
theorem run_le {xs : Nat → Int32} {L : Nat} {fm : Value} {n m mi pc : Nat} {ls st : List Value} {H : ip_H} {o : Option Value × ip_H} (h : ip_run xs L fm n mi pc ls st H = some o) (hnm : n ≤ m) : ip_run xs L fm m mi pc ls st H = some o := by
  obtain ⟨k, rfl⟩ := Nat.exists_eq_add_of_le hnm
  clear hnm
  induction k with
  | zero => exact h
  | succ k ih => exact run_up _ _ _ _ _ _ _ ih
theorem run_ind {xs ys : Nat → Int32} {L M : Nat} {fm : Value} : ∀ (n mi pc : Nat) (ls st : List Value) (H : ip_H) (o : Option Value × ip_H), mi ≠ ip_law → ip_run xs L fm n mi pc ls st H = some o → ip_run ys M fm n mi pc ls st H = some o := by
  intro n
  induction n with
  | zero => intro mi pc ls st H o _ h; simp [ip_run] at h
  | succ n ih =>
    intro mi pc ls st H o hm h
    exact run_step (Q := fun mi => mi ≠ ip_law) (fun _ _ _ _ _ hq => sH_ind hq) (fun _ _ _ _ _ _ _ _ _ hc => call_law hc) ih mi pc ls st H o hm h
section RR
variable {xs : Nat → Int32} {L : Nat} {fm : Value} {n mi pc pc' len : Nat} {ls ls' st st' : List Value} {H H' : ip_H} {ins : Instr}
theorem run_s0 (hd : decode (ip_mB mi) pc = .ok (ins, len)) (h : ip_s0 pc ins len ls st = some (pc', ls', st')) : ip_run xs L fm (n + 1) mi pc ls st H = ip_run xs L fm n mi pc' ls' st' H := by simp only [ip_run, hd, h]
theorem sA_sS (h : ip_sA mi ins len ls st H = some (st', H')) : ip_sS fm mi ins len st = none := by
  unfold ip_sA at h
  split at h
  · split at h
    · rfl
    · rfl
    · rfl
    · rfl
    · cases h
  · cases h
theorem run_sA (hd : decode (ip_mB mi) pc = .ok (ins, len)) (h0 : ip_s0 pc ins len ls st = none) (hH : ip_sH xs L mi ins len st H = none) (h : ip_sA mi ins len ls st H = some (st', H')) : ip_run xs L fm (n + 1) mi pc ls st H = ip_run xs L fm n mi (pc + len) ls st' H' := by simp only [ip_run, hd, h0, hH, sA_sS h, h]
theorem run_sH (hd : decode (ip_mB mi) pc = .ok (ins, len)) (h0 : ip_s0 pc ins len ls st = none) (h : ip_sH xs L mi ins len st H = some (st', H')) : ip_run xs L fm (n + 1) mi pc ls st H = ip_run xs L fm n mi (pc + len) ls st' H' := by simp only [ip_run, hd, h0, h]
theorem run_call {cal : Nat} {as rest : List Value} {r : Option Value} (hd : decode (ip_mB mi) pc = .ok (ins, len)) (h0 : ip_s0 pc ins len ls st = none) (h : ip_call mi ins len st H = some (cal, as, rest)) (hr : ip_run xs L fm n cal 0 (ip_ent as (ip_mL cal)) [] H = some (r, H')) (hw : ip_wl H.length ls = true ∧ ip_wl H.length rest = true) : ip_run xs L fm (n + 1) mi pc ls st H = ip_run xs L fm n mi (pc + 3) ls (r.toList ++ rest) H' := by
  obtain ⟨a, b, c, d⟩ := ip_call_no (fm := fm) (xs := xs) (L := L) (ls := ls) H H h
  simp only [ip_run, hd, h0, a, b, c, d, h, hr, hw, and_self, or_true, ↓reduceIte]
end RR
/-- some steps without calls, told in the kernel -/
def ip_ps (mi : Nat) : Nat → Nat → List Value → List Value → ip_H → Option (Nat × List Value × List Value × ip_H)
  | 0, pc, ls, st, h => some (pc, ls, st, h)
  | n + 1, pc, ls, st, h => match decode (ip_mB mi) pc with
    | .error _ => none
    | .ok (ins, len) => (match ip_s0 pc ins len ls st with
      | some (pc', ls', st') => ip_ps mi n pc' ls' st' h
      | none => (match ip_sH ip_x0 0 mi ins len st h with
        | some (st', h') => ip_fc h' (fun h2 => ip_ps mi n (pc + len) ls st' h2)
        | none => (match ip_sA mi ins len ls st h with
          | some (st', h') => ip_fc h' (fun h2 => ip_ps mi n (pc + len) ls st' h2)
          | none => none)))
theorem ip_ps_run {xs : Nat → Int32} {L : Nat} {fm : Value} {mi : Nat} (hm : mi ≠ ip_law) : ∀ (k pc : Nat) (ls st : List Value) (h : ip_H) (o : Nat × List Value × List Value × ip_H) (n : Nat), ip_ps mi k pc ls st h = some o → ip_run xs L fm (n + k) mi pc ls st h = ip_run xs L fm n mi o.1 o.2.1 o.2.2.1 o.2.2.2 := by
  intro k
  induction k with
  | zero => intro pc ls st h o n e; cases e; rfl
  | succ k ih =>
    intro pc ls st h o n e
    unfold ip_ps at e
    simp only [ip_fc_eq] at e
    rw [← Nat.add_assoc]
    split at e
    · cases e
    · next ins len hd =>
      split at e
      · next hs => rw [run_s0 hd hs]; exact ih _ _ _ _ _ _ e
      · next hs =>
        split at e
        · next hH => rw [run_sH hd hs ((sH_ind hm).trans hH)]; exact ih _ _ _ _ _ _ e
        · next hH =>
          split at e
          · next hA => rw [run_sA hd hs ((sH_ind hm).trans hH) hA]; exact ih _ _ _ _ _ _ e
          · cases e
def sg1 : ip_G := fun k i => if k = 93 then 0 else sg0 k i
