/-! THE SECOND INTERPRETER, its simulation, and wp -/
def ip_rS (xs : Nat → Int32) (L : Nat) (fm : Value) : Nat → Nat → Nat → List Value → List Value → ip_G → Option (Option Value × ip_G)
  | 0, _, _, _, _, _ => none
  | n + 1, mi, pc, ls, st, σ => match decode (ip_mB mi) pc with
    | .error _ => none
    | .ok (ins, len) => (match ip_s0 pc ins len ls st with
      | some (pc', ls', st') => ip_rS xs L fm n mi pc' ls' st' σ
      | none => (match ip_tH xs L mi ins len st σ with
        | some (st', σ') => ip_rS xs L fm n mi (pc + len) ls st' σ'
        | none => (match ip_sS fm mi ins len st with
          | some st' => ip_rS xs L fm n mi (pc + len) ls st' σ
          | none => (match ip_sR mi ins len st with
            | some r => some (r, σ)
            | none => (match ip_call mi ins len st (ip_mk (fun _ _ => 0)) with
              | some (cal, as, rest) => (match ip_rS xs L fm n cal 0 (ip_ent as (ip_mL cal)) [] σ with
                | some (r, σ') => ip_rS xs L fm n mi (pc + 3) ls (r.toList ++ rest) σ'
                | none => none)
              | none => none)))))
theorem ip_mk_out (σ : ip_G) {q : Nat} (h : 103 ≤ q) : (ip_mk σ)[q]? = none := List.getElem?_eq_none (by rw [ip_mk_len103]; exact h)
theorem ip_sS_no {fm : Value} {xs : Nat → Int32} {L mi : Nat} {ins : Instr} {len : Nat} {st o : List Value} (σ : ip_G) (h : ip_sS fm mi ins len st = some o) : ip_sH xs L mi ins len st (ip_mk σ) = none := by
  unfold ip_sS at h
  split at h
  · rfl
  · split at h
    · next i _ q r =>
      split at h
      · next hc =>
        have : (ip_mk σ)[q]? = none := ip_mk_out σ (Nat.le_trans (by decide) hc.1)
        simp only [ip_sH, this]
        split <;> rfl
      · cases h
    · cases h
  · split at h
    · next q r =>
      split at h
      · next hc =>
        have : ¬ (q = 1000000 ∧ mi = ip_law) := fun z => by rw [z.1] at hc; exact absurd hc.1 (by decide)
        simp only [ip_sH, this, ↓reduceIte]
      · cases h
    · cases h
  · split at h
    · next i q r =>
      split at h
      · next hc =>
        have : (ip_mk σ)[q]? = none := ip_mk_out σ (Nat.le_trans (by decide) hc.1)
        simp only [ip_sH, this]
      · cases h
    · cases h
  · rfl
  · rfl
  · cases h
theorem ip_sR_no {fm : Value} {xs : Nat → Int32} {L mi : Nat} {ins : Instr} {len : Nat} {ls st : List Value} {o : Option Value} (h : ip_H) (hr : ip_sR mi ins len st = some o) : ip_sH xs L mi ins len st h = none ∧ ip_sS fm mi ins len st = none ∧ ip_sA mi ins len ls st h = none := by
  unfold ip_sR at hr
  split at hr
  · exact ⟨rfl, rfl, by unfold ip_sA; split <;> rfl⟩
  · exact ⟨rfl, rfl, by unfold ip_sA; split <;> rfl⟩
  · exact ⟨rfl, rfl, by unfold ip_sA; split <;> rfl⟩
  · cases hr
theorem ip_ct_prm : ∀ q ∈ ip_ct0 ++ ip_ct1, ip_prm q.1 q.2.1 = none := by decide +kernel
theorem ip_call_no {fm : Value} {xs : Nat → Int32} {L mi : Nat} {ins : Instr} {len : Nat} {ls st : List Value} {o : Nat × List Value × List Value} (h h0 : ip_H) (hc : ip_call mi ins len st h0 = some o) : ip_sH xs L mi ins len st h = none ∧ ip_sS fm mi ins len st = none ∧ ip_sA mi ins len ls st h = none ∧ ip_sR mi ins len st = none := by
  obtain ⟨cal, as, rest⟩ := o
  obtain ⟨rfl, -, -, -, -, hk⟩ := ip_call_inv hc
  have prm : ∀ i z, ip_cal (ip_mO mi) i = some z → ip_prm (ip_mO mi) i = none := fun i z hz => ip_ct_prm _ (ip_find hz)
  rcases hk with ⟨i, n, rfl, hcal, -⟩ | ⟨i, n, kind, q, as0, hi, hcal, -⟩
  · refine ⟨?_, rfl, by unfold ip_sA; split <;> rfl, rfl⟩
    simp only [ip_sH, prm i _ hcal]
  · rcases hi with ⟨rfl, -⟩ | ⟨rfl, -⟩
    · exact ⟨rfl, rfl, by unfold ip_sA; split <;> rfl, rfl⟩
    · refine ⟨?_, rfl, by unfold ip_sA; split <;> rfl, rfl⟩
      simp only [ip_sH, prm i _ hcal]
      split
      · simp
      · rfl
theorem ip_rcv_sh (cal q : Nat) (σ τ : ip_G) : ip_rcv cal q (ip_mk σ) = ip_rcv cal q (ip_mk τ) := by
  unfold ip_rcv
  rw [ip_mk_get, ip_mk_get]
  cases ip_shp[q]? with
  | none => rfl
  | some c => rfl
theorem ip_call_sh {mi : Nat} {ins : Instr} {len : Nat} {st : List Value} (σ τ : ip_G) : ip_call mi ins len st (ip_mk σ) = ip_call mi ins len st (ip_mk τ) := by
  have h : ∀ cal q, ip_rcv cal q (ip_mk σ) = ip_rcv cal q (ip_mk τ) := fun cal q => ip_rcv_sh cal q σ τ
  unfold ip_call
  simp only [h]
theorem ip_sim (xs : Nat → Int32) (L : Nat) (fm : Value) : ∀ (n mi pc : Nat) (ls st : List Value) (σ : ip_G) (r : Option Value) (σ' : ip_G), ip_rS xs L fm n mi pc ls st σ = some (r, σ') → ip_run xs L fm n mi pc ls st (ip_mk σ) = some (r, ip_mk σ') := by
  intro n
  induction n with
  | zero => intro mi pc ls st σ r σ' h; simp [ip_rS] at h
  | succ n ih =>
    intro mi pc ls st σ r σ' h
    unfold ip_rS at h
    unfold ip_run
    split at h
    · cases h
    · next ins len hd =>
      simp only [hd]
      split at h
      · next hs => simp only [hs]; exact ih _ _ _ _ _ _ _ h
      · next hs =>
        simp only [hs]
        split at h
        · next ht => simp only [ip_tH_sim ht]; exact ih _ _ _ _ _ _ _ h
        · split at h
          · next hS => simp only [ip_sS_no σ hS, hS]; exact ih _ _ _ _ _ _ _ h
          · split at h
            · next hR =>
              obtain ⟨a, b, c⟩ := ip_sR_no (fm := fm) (xs := xs) (L := L) (ls := ls) (ip_mk σ) hR
              cases h
              simp only [a, b, c, hR]
            · split at h
              · next cal as rest hc =>
                obtain ⟨a, b, c, d⟩ := ip_call_no (fm := fm) (xs := xs) (L := L) (ls := ls) (ip_mk σ) _ hc
                rw [ip_call_sh _ σ] at hc
                split at h
                · next r1 σ1 hr1 =>
                  simp only [a, b, c, d, hc, ih _ _ _ _ _ _ _ hr1, ip_mk_len σ σ1, true_or, ↓reduceIte]
                  exact ih _ _ _ _ _ _ _ h
                · cases h
              · cases h
theorem ip_rS_step {xs : Nat → Int32} {L : Nat} {fm : Value} {n m : Nat} (ih : ∀ (mi pc : Nat) (ls st : List Value) (σ : ip_G) (o : Option Value × ip_G), ip_rS xs L fm n mi pc ls st σ = some o → ip_rS xs L fm m mi pc ls st σ = some o) : ∀ (mi pc : Nat) (ls st : List Value) (σ : ip_G) (o : Option Value × ip_G), ip_rS xs L fm (n + 1) mi pc ls st σ = some o → ip_rS xs L fm (m + 1) mi pc ls st σ = some o := by
  intro mi pc ls st σ o h
  unfold ip_rS at h
  unfold ip_rS
  split at h
  · cases h
  · next ins len hd =>
    (try simp only [hd])
    split at h
    · next hs => (try simp only [hs]); exact ih _ _ _ _ _ _ h
    · next hs =>
      (try simp only [hs])
      split at h
      · next ht => (try simp only [ht]); exact ih _ _ _ _ _ _ h
      · next ht =>
        (try simp only [ht])
        split at h
        · next hS => (try simp only [hS]); exact ih _ _ _ _ _ _ h
        · next hS =>
          (try simp only [hS])
          split at h
          · next hR => (try simp only [hR]); exact h
          · next hR =>
            (try simp only [hR])
            split at h
            · next hc =>
              (try simp only [hc])
              split at h
              · next hr1 => simp only [ih _ _ _ _ _ _ hr1]; exact ih _ _ _ _ _ _ h
              · cases h
            · cases h
theorem ip_rS_up (xs : Nat → Int32) (L : Nat) (fm : Value) : ∀ (n mi pc : Nat) (ls st : List Value) (σ : ip_G) (o : Option Value × ip_G), ip_rS xs L fm n mi pc ls st σ = some o → ip_rS xs L fm (n + 1) mi pc ls st σ = some o := by
  intro n
  induction n with
  | zero => intro mi pc ls st σ o h; simp [ip_rS] at h
  | succ n ih => exact ip_rS_step ih
theorem ip_rS_le {xs : Nat → Int32} {L : Nat} {fm : Value} {n m mi pc : Nat} {ls st : List Value} {σ : ip_G} {o : Option Value × ip_G} (h : ip_rS xs L fm n mi pc ls st σ = some o) (hnm : n ≤ m) : ip_rS xs L fm m mi pc ls st σ = some o := by
  obtain ⟨k, rfl⟩ := Nat.exists_eq_add_of_le hnm
  clear hnm
  induction k with
  | zero => exact h
  | succ k ih => exact ip_rS_up _ _ _ _ _ _ _ _ _ _ ih
abbrev ip_E : Type := (Nat → Int32) × Nat × Value
/-- the weakest precondition -/
def wp (E : ip_E) (mi pc : Nat) (ls st : List Value) (σ : ip_G) (κ : Option Value → ip_G → Prop) : Prop := ∃ (n : Nat) (o : Option Value × ip_G), ip_rS E.1 E.2.1 E.2.2 n mi pc ls st σ = some o ∧ κ o.1 o.2
section WPE
variable {E : ip_E} {mi pc pc' len i k sl ci kd : Nat} {ls ls' st st' : List Value} {σ σ' : ip_G} {κ : Option Value → ip_G → Prop} {ins : Instr}
theorem wp_s0 (hd : decode (ip_mB mi) pc = .ok (ins, len)) (h : ip_s0 pc ins len ls st = some (pc', ls', st')) : wp E mi pc ls st σ κ = wp E mi pc' ls' st' σ κ := by
  apply propext
  constructor
  · rintro ⟨n, o, h1, h2⟩
    cases n with
    | zero => simp [ip_rS] at h1
    | succ n =>
      simp only [ip_rS, hd, h] at h1
      exact ⟨n, o, h1, h2⟩
  · rintro ⟨n, o, h1, h2⟩
    exact ⟨n + 1, o, by simp only [ip_rS, hd, h]; exact h1, h2⟩
theorem wp_tH (hd : decode (ip_mB mi) pc = .ok (ins, len)) (h0 : ip_s0 pc ins len ls st = none) (h : ip_tH E.1 E.2.1 mi ins len st σ = some (st', σ')) : wp E mi pc ls st σ κ = wp E mi (pc + len) ls st' σ' κ := by
  apply propext
  constructor
  · rintro ⟨n, o, h1, h2⟩
    cases n with
    | zero => simp [ip_rS] at h1
    | succ n =>
      simp only [ip_rS, hd, h0, h] at h1
      exact ⟨n, o, h1, h2⟩
  · rintro ⟨n, o, h1, h2⟩
    exact ⟨n + 1, o, by simp only [ip_rS, hd, h0, h]; exact h1, h2⟩
theorem wp_sS (hd : decode (ip_mB mi) pc = .ok (ins, len)) (h0 : ip_s0 pc ins len ls st = none) (hT : ip_tH E.1 E.2.1 mi ins len st σ = none) (h : ip_sS E.2.2 mi ins len st = some st') : wp E mi pc ls st σ κ = wp E mi (pc + len) ls st' σ κ := by
  apply propext
  constructor
  · rintro ⟨n, o, h1, h2⟩
    cases n with
    | zero => simp [ip_rS] at h1
    | succ n =>
      simp only [ip_rS, hd, h0, hT, h] at h1
      exact ⟨n, o, h1, h2⟩
  · rintro ⟨n, o, h1, h2⟩
    exact ⟨n + 1, o, by simp only [ip_rS, hd, h0, hT, h]; exact h1, h2⟩
theorem wp_sR {r : Option Value} (hd : decode (ip_mB mi) pc = .ok (ins, len)) (h0 : ip_s0 pc ins len ls st = none) (h : ip_sR mi ins len st = some r) : wp E mi pc ls st σ κ = κ r σ := by
  have hT : ip_tH E.1 E.2.1 mi ins len st σ = none := by
    unfold ip_sR at h
    split at h
    · rfl
    · rfl
    · rfl
    · cases h
  obtain ⟨-, hS, -⟩ := ip_sR_no (fm := E.2.2) (xs := E.1) (L := E.2.1) (ls := ls) [] h
  apply propext
  constructor
  · rintro ⟨n, o, h1, h2⟩
    cases n with
    | zero => simp [ip_rS] at h1
    | succ n =>
      simp only [ip_rS, hd, h0, hT, hS, h] at h1
      cases h1
      exact h2
  · intro hk
    exact ⟨1, (r, σ), by simp only [ip_rS, hd, h0, hT, hS, h], hk⟩
theorem wp_call {cal : Nat} {as rest : List Value} (hd : decode (ip_mB mi) pc = .ok (ins, len)) (h0 : ip_s0 pc ins len ls st = none) (h : ip_call mi ins len st (ip_mk (fun _ _ => 0)) = some (cal, as, rest)) : wp E mi pc ls st σ κ = wp E cal 0 (ip_ent as (ip_mL cal)) [] σ (fun r σ' => wp E mi (pc + 3) ls (r.toList ++ rest) σ' κ) := by
  obtain ⟨hsH, hS, -, hR⟩ := ip_call_no (fm := E.2.2) (xs := E.1) (L := E.2.1) (ls := ls) (ip_mk σ) _ h
  have hT : ip_tH E.1 E.2.1 mi ins len st σ = none := by
    cases hz : ip_tH E.1 E.2.1 mi ins len st σ with
    | none => rfl
    | some o =>
      obtain ⟨a, b⟩ := o
      rw [ip_tH_sim hz] at hsH
      cases hsH
  apply propext
  constructor
  · rintro ⟨n, o, h1, h2⟩
    cases n with
    | zero => simp [ip_rS] at h1
    | succ n =>
      simp only [ip_rS, hd, h0, hT, hS, hR, h] at h1
      split at h1
      · next r1 σ1 hr1 => exact ⟨n, (r1, σ1), hr1, n, o, h1, h2⟩
      · cases h1
  · rintro ⟨n, ⟨r1, σ1⟩, hr1, m, o, h1, h2⟩
    refine ⟨max n m + 1, o, ?_, h2⟩
    simp only [ip_rS, hd, h0, hT, hS, hR, h, ip_rS_le hr1 (Nat.le_max_left n m)]
    exact ip_rS_le h1 (Nat.le_max_right n m)
end WPE
