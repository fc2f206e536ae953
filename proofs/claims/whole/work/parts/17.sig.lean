/-! THE SECOND INTERPRETER: behind the two constructors no cell is made: the heap is a fixed shape and sigma : place -> index -> Int32 -/
def ip_shp : List (Nat × List (Option Nat)) := [(7, [some 1, some 2, some 11, some 12, some 13, some 63, some 68, some 70, some 73]),
  (0, [some 2, some 8, some 9, some 10]),
  (1, [none, none, none, none, some 3, some 4, some 5, some 6, some 7]),
  (100, List.replicate 12 none),
  (100, List.replicate 6 none),
  (100, List.replicate 12 none),
  (100, List.replicate 12 none),
  (100, List.replicate 12 none),
  (100, List.replicate 12 none),
  (100, List.replicate 13 none),
  (100, List.replicate 13 none),
  (201, [some 74, some 80]),
  (101, List.replicate 2 none),
  (2, [some 14, none, none]),
  (201, [some 15, some 21, some 27, some 33, some 39, some 45, some 51, some 57]),
  (1, [none, none, none, none, some 16, some 17, some 18, some 19, some 20]),
  (100, List.replicate 12 none),
  (100, List.replicate 6 none),
  (100, List.replicate 12 none),
  (100, List.replicate 12 none),
  (100, List.replicate 12 none),
  (1, [none, none, none, none, some 22, some 23, some 24, some 25, some 26]),
  (100, List.replicate 12 none),
  (100, List.replicate 6 none),
  (100, List.replicate 12 none),
  (100, List.replicate 12 none),
  (100, List.replicate 12 none),
  (1, [none, none, none, none, some 28, some 29, some 30, some 31, some 32]),
  (100, List.replicate 12 none),
  (100, List.replicate 6 none),
  (100, List.replicate 12 none),
  (100, List.replicate 12 none),
  (100, List.replicate 12 none),
  (1, [none, none, none, none, some 34, some 35, some 36, some 37, some 38]),
  (100, List.replicate 12 none),
  (100, List.replicate 6 none),
  (100, List.replicate 12 none),
  (100, List.replicate 12 none),
  (100, List.replicate 12 none),
  (1, [none, none, none, none, some 40, some 41, some 42, some 43, some 44]),
  (100, List.replicate 12 none),
  (100, List.replicate 6 none),
  (100, List.replicate 12 none),
  (100, List.replicate 12 none),
  (100, List.replicate 12 none),
  (1, [none, none, none, none, some 46, some 47, some 48, some 49, some 50]),
  (100, List.replicate 12 none),
  (100, List.replicate 6 none),
  (100, List.replicate 12 none),
  (100, List.replicate 12 none),
  (100, List.replicate 12 none),
  (1, [none, none, none, none, some 52, some 53, some 54, some 55, some 56]),
  (100, List.replicate 12 none),
  (100, List.replicate 6 none),
  (100, List.replicate 12 none),
  (100, List.replicate 12 none),
  (100, List.replicate 12 none),
  (1, [none, none, none, none, some 58, some 59, some 60, some 61, some 62]),
  (100, List.replicate 12 none),
  (100, List.replicate 6 none),
  (100, List.replicate 12 none),
  (100, List.replicate 12 none),
  (100, List.replicate 12 none),
  (4, [none, none, some 64, some 65, some 66, some 67]),
  (100, List.replicate 12 none),
  (100, List.replicate 12 none),
  (100, List.replicate 12 none),
  (100, List.replicate 12 none),
  (6, [some 69, none, none, none, none]),
  (100, List.replicate 200 none),
  (3, [none, some 71, some 72, none, none, none, none, none, none]),
  (100, List.replicate 24 none),
  (100, List.replicate 96 none),
  (205, [some 86, some 88, some 90]),
  (1, [none, none, none, none, some 75, some 76, some 77, some 78, some 79]),
  (100, List.replicate 12 none),
  (100, List.replicate 6 none),
  (100, List.replicate 12 none),
  (100, List.replicate 12 none),
  (100, List.replicate 12 none),
  (1, [none, none, none, none, some 81, some 82, some 83, some 84, some 85]),
  (100, List.replicate 12 none),
  (100, List.replicate 6 none),
  (100, List.replicate 12 none),
  (100, List.replicate 12 none),
  (100, List.replicate 12 none),
  (5, [none, none, some 87]),
  (100, List.replicate 8 none),
  (5, [none, none, some 89]),
  (100, List.replicate 8 none),
  (5, [none, none, some 91]),
  (100, List.replicate 8 none),
  (8, [some 93, some 94, none, none, none, some 95, some 96, none, some 97, some 98, none, none, some 99, none, none, some 100, some 101, some 102]),
  (100, List.replicate 638 none),
  (100, List.replicate 12 none),
  (101, List.replicate 2 none),
  (100, List.replicate 200 none),
  (100, List.replicate 3 none),
  (100, List.replicate 24 none),
  (100, List.replicate 6 none),
  (100, List.replicate 4 none),
  (100, List.replicate 40 none),
  (100, List.replicate 6 none)]
abbrev ip_G : Type := Nat → Nat → Int32
def ip_mkv (σ : ip_G) (k i : Nat) (o : Option Nat) : Value := match o with
  | some p => .ref p
  | none => .int (σ k i)
def ip_mkc (σ : ip_G) (k : Nat) (q : Nat × List (Option Nat)) : Nat × List Value := (q.1, q.2.mapIdx (ip_mkv σ k))
def ip_mk (σ : ip_G) : ip_H := ip_shp.mapIdx (ip_mkc σ)
def ip_tg (k : Nat) : Option Nat := (ip_shp[k]?).map (fun q => q.1)
def ip_ln (k : Nat) : Nat := ((ip_shp[k]?).map (fun q => q.2.length)).getD 0
def ip_rf (k i : Nat) : Option Nat := (ip_shp[k]?).bind (fun q => (q.2[i]?).join)
def ip_u2 (σ : ip_G) (k i : Nat) (v : Int32) : ip_G := fun a b => if a = k ∧ b = i then v else σ a b
def ip_cp (σ : ip_G) (a b n : Nat) : ip_G := fun k i => if k = a ∧ i < n then σ b i else σ k i
def ip_tH (xs : Nat → Int32) (L : Nat) (mi : Nat) (ins : Instr) (len : Nat) (st : List Value) (σ : ip_G) : Option (List Value × ip_G) := match ins, len with
  | .getfield i, 3 => (match st with
    | .ref k :: r => (match ip_fld (ip_mO mi) i with
      | some (ci, sl, _) => if ip_tg k = some ci ∧ ci < 100 ∧ sl < ip_ln k then some (ip_mkv σ k sl (ip_rf k sl) :: r, σ) else none
      | none => none)
    | _ => none)
  | .putfield i, 3 => (match st with
    | .int v :: .ref k :: r => (match ip_fld (ip_mO mi) i with
      | some (ci, sl, kind) => if ip_tg k = some ci ∧ ci < 100 ∧ sl < ip_ln k ∧ ip_rf k sl = none ∧ ip_fit mi ci kind (.int v) = true then some (r, ip_u2 σ k sl v) else none
      | none => none)
    | _ => none)
  | .iaload, 1 => (match st with
    | .int i :: .ref k :: r => if k = 1000000 then (if mi = ip_law ∧ ip_in i L = true then some (.int (xs i.toNatClampNeg) :: r, σ) else none) else (if ip_tg k = some 100 ∧ ip_in i (ip_ln k) = true then some (.int (σ k i.toNatClampNeg) :: r, σ) else none)
    | _ => none)
  | .baload, 1 => (match st with
    | .int i :: .ref k :: r => if ip_tg k = some 101 ∧ ip_in i (ip_ln k) = true then some (.int (σ k i.toNatClampNeg) :: r, σ) else none
    | _ => none)
  | .aaload, 1 => (match st with
    | .int i :: .ref k :: r => if (ip_tg k = some 201 ∨ ip_tg k = some 205) ∧ ip_in i (ip_ln k) = true then some (ip_mkv σ k i.toNatClampNeg (ip_rf k i.toNatClampNeg) :: r, σ) else none
    | _ => none)
  | .iastore, 1 => (match st with
    | .int x :: .int i :: .ref k :: r => if ip_tg k = some 100 ∧ ip_in i (ip_ln k) = true then some (r, ip_u2 σ k i.toNatClampNeg x) else none
    | _ => none)
  | .bastore, 1 => (match st with
    | .int x :: .int i :: .ref k :: r => if ip_tg k = some 101 ∧ ip_in i (ip_ln k) = true ∧ ip_bit x = true then some (r, ip_u2 σ k i.toNatClampNeg x) else none
    | _ => none)
  | .arraylength, 1 => (match st with
    | .ref k :: r => if k = 1000000 ∧ mi = ip_law then some (.int (nI L) :: r, σ) else none
    | _ => none)
  | .ldc2_w i, 3 => (match ip_lc (ip_mO mi) i with
    | some v => some (.long v :: st, σ)
    | none => none)
  | .ldc_w i, 3 => (match ip_kc (ip_mO mi) i with
    | some v => some (.int v :: st, σ)
    | none => none)
  | .invokestatic i, 3 => (match ip_prm (ip_mO mi) i with
    | some 11 => (match st with
      | .int y :: .int x :: r => if r.length ≤ 4 then some (.int (if x < y then y else x) :: r, σ) else none
      | _ => none)
    | some 12 => (match st with
      | .int y :: .int x :: r => if r.length ≤ 4 then some (.int (if y < x then y else x) :: r, σ) else none
      | _ => none)
    | some 13 => (match st with
      | .int n :: .int dp :: .ref a :: .int sp :: .ref b :: r => if ip_tg b = some 100 ∧ ip_tg a = some 100 ∧ sp = 0 ∧ dp = 0 ∧ ¬ n < 0 ∧ n.toNatClampNeg ≤ ip_ln b ∧ n.toNatClampNeg ≤ ip_ln a ∧ r.length ≤ 4 then some (r, ip_cp σ a b n.toNatClampNeg) else none
      | _ => none)
    | _ => none)
  | _, _ => none
theorem ip_mk_get (σ : ip_G) (k : Nat) : (ip_mk σ)[k]? = (ip_shp[k]?).map (ip_mkc σ k) := List.getElem?_mapIdx
theorem ip_mk_len (σ τ : ip_G) : (ip_mk σ).length = (ip_mk τ).length := by unfold ip_mk; rw [List.length_mapIdx, List.length_mapIdx]
theorem ip_mk_len103 (σ : ip_G) : (ip_mk σ).length = 103 := by unfold ip_mk; rw [List.length_mapIdx]; decide +kernel
theorem ip_shp_int : ∀ q ∈ ip_shp, q.1 = 100 ∨ q.1 = 101 → ∀ o ∈ q.2, o = none := by decide +kernel
theorem ip_tg_get {k t : Nat} (h : ip_tg k = some t) : ∃ q, ip_shp[k]? = some q ∧ q.1 = t := by
  unfold ip_tg at h
  cases hq : ip_shp[k]? with
  | none => rw [hq] at h; cases h
  | some q => rw [hq] at h; cases h; exact ⟨q, rfl, rfl⟩
theorem ip_cellv {σ : ip_G} {k t i : Nat} (h : ip_tg k = some t) (hi : i < ip_ln k) : ∃ vs : List Value, (ip_mk σ)[k]? = some (t, vs) ∧ vs.length = ip_ln k ∧ vs[i]? = some (ip_mkv σ k i (ip_rf k i)) := by
  obtain ⟨q, h1, rfl⟩ := ip_tg_get h
  have e1 : ip_ln k = q.2.length := by unfold ip_ln; rw [h1]; rfl
  refine ⟨q.2.mapIdx (ip_mkv σ k), by rw [ip_mk_get, h1]; rfl, by rw [List.length_mapIdx, e1], ?_⟩
  rw [List.getElem?_mapIdx]
  unfold ip_rf
  rw [h1]
  have hlt : i < q.2.length := by omega
  rw [List.getElem?_eq_getElem hlt]
  simp [List.getElem?_eq_getElem hlt]
theorem ip_rf_none {k t i : Nat} (h : ip_tg k = some t) (ht : t = 100 ∨ t = 101) : ip_rf k i = none := by
  obtain ⟨q, h1, rfl⟩ := ip_tg_get h
  unfold ip_rf
  rw [h1]
  show (q.2[i]?).join = none
  cases hz : q.2[i]? with
  | none => rfl
  | some o => rw [ip_shp_int q (List.mem_of_getElem? h1) ht o (List.mem_of_getElem? hz)]; rfl
theorem ip_mk_u2 {σ : ip_G} {k t i : Nat} {v : Int32} {vs : List Value} (h : (ip_mk σ)[k]? = some (t, vs)) (hi : i < vs.length) (hr : ip_rf k i = none) : (ip_mk σ).set k (t, vs.set i (.int v)) = ip_mk (ip_u2 σ k i v) := by
  apply List.ext_getElem?
  intro j
  rw [ip_mk_get] at h
  cases hq : ip_shp[k]? with
  | none => rw [hq] at h; cases h
  | some q =>
    rw [hq] at h
    have h2 : ip_mkc σ k q = (t, vs) := Option.some.inj h
    have hl : k < (ip_mk σ).length := by
      unfold ip_mk
      rw [List.length_mapIdx]
      exact (List.getElem?_eq_some_iff.mp hq).1
    by_cases e : j = k
    · subst e
      rw [List.getElem?_set_self hl, ip_mk_get, hq]
      unfold ip_mkc at h2
      have e1 : q.1 = t := congrArg Prod.fst h2
      have e2 : q.2.mapIdx (ip_mkv σ j) = vs := congrArg Prod.snd h2
      show some (t, vs.set i (.int v)) = some (q.1, q.2.mapIdx (ip_mkv (ip_u2 σ j i v) j))
      rw [e1]
      refine congrArg some (congrArg (Prod.mk t) ?_)
      apply List.ext_getElem?
      intro a
      rw [List.getElem?_mapIdx]
      by_cases ea : a = i
      · subst ea
        rw [List.getElem?_set_self hi]
        have hlt : a < q.2.length := by rw [← e2, List.length_mapIdx] at hi; exact hi
        rw [List.getElem?_eq_getElem hlt]
        unfold ip_rf at hr
        rw [hq] at hr
        have hr2 : (q.2[a]?).join = none := hr
        rw [List.getElem?_eq_getElem hlt] at hr2
        have hr3 : q.2[a] = none := hr2
        rw [hr3]
        simp [ip_mkv, ip_u2]
      · rw [List.getElem?_set_ne (Ne.symm ea), ← e2, List.getElem?_mapIdx]
        cases q.2[a]? with
        | none => rfl
        | some o => cases o <;> simp [ip_mkv, ip_u2, ea]
    · rw [List.getElem?_set_ne (Ne.symm e), ip_mk_get, ip_mk_get]
      cases ip_shp[j]? with
      | none => rfl
      | some q2 =>
        refine congrArg some ?_
        unfold ip_mkc
        refine congrArg (Prod.mk q2.1) ?_
        apply List.ext_getElem?
        intro a
        rw [List.getElem?_mapIdx, List.getElem?_mapIdx]
        cases q2.2[a]? with
        | none => rfl
        | some o => cases o <;> simp [ip_mkv, ip_u2, e]
theorem ip_mk_cp {σ : ip_G} {a b n : Nat} {vs us : List Value} (ha : ip_tg a = some 100) (hb : ip_tg b = some 100) (h1 : (ip_mk σ)[b]? = some (100, vs)) (h2 : (ip_mk σ)[a]? = some (100, us)) (hn : n ≤ vs.length) (hm : n ≤ us.length) : (ip_mk σ).set a (100, vs.take n ++ us.drop n) = ip_mk (ip_cp σ a b n) := by
  apply List.ext_getElem?
  intro j
  have hl : a < (ip_mk σ).length := (List.getElem?_eq_some_iff.mp h2).1
  rw [ip_mk_get] at h1 h2
  obtain ⟨qa, ea, _⟩ := ip_tg_get ha
  obtain ⟨qb, eb, _⟩ := ip_tg_get hb
  rw [ea] at h2
  rw [eb] at h1
  have h1' : ip_mkc σ b qb = (100, vs) := Option.some.inj h1
  have h2' : ip_mkc σ a qa = (100, us) := Option.some.inj h2
  unfold ip_mkc at h1' h2'
  have v2 : qb.2.mapIdx (ip_mkv σ b) = vs := congrArg Prod.snd h1'
  have u1 : qa.1 = 100 := congrArg Prod.fst h2'
  have u2 : qa.2.mapIdx (ip_mkv σ a) = us := congrArg Prod.snd h2'
  have na : ∀ i o, qa.2[i]? = some o → o = none := fun i o h => ip_shp_int qa (List.mem_of_getElem? ea) (Or.inl u1) o (List.mem_of_getElem? h)
  have nb : ∀ i o, qb.2[i]? = some o → o = none := fun i o h => ip_shp_int qb (List.mem_of_getElem? eb) (Or.inl (congrArg Prod.fst h1')) o (List.mem_of_getElem? h)
  by_cases e : j = a
  · subst e
    rw [List.getElem?_set_self hl, ip_mk_get, ea]
    show some (100, vs.take n ++ us.drop n) = some (qa.1, qa.2.mapIdx (ip_mkv (ip_cp σ j b n) j))
    rw [u1]
    refine congrArg some (congrArg (Prod.mk 100) ?_)
    apply List.ext_getElem?
    intro i
    rw [List.getElem?_mapIdx]
    have hlt : (vs.take n).length = n := by rw [List.length_take]; omega
    by_cases ei : i < n
    · rw [List.getElem?_append_left (by omega), List.getElem?_take_of_lt ei, ← v2, List.getElem?_mapIdx]
      have l1 : i < qb.2.length := by rw [← v2, List.length_mapIdx] at hn; omega
      have l2 : i < qa.2.length := by rw [← u2, List.length_mapIdx] at hm; omega
      rw [List.getElem?_eq_getElem l1, List.getElem?_eq_getElem l2, nb i _ (List.getElem?_eq_getElem l1), na i _ (List.getElem?_eq_getElem l2)]
      simp [ip_mkv, ip_cp, ei]
    · rw [List.getElem?_append_right (by omega), hlt, List.getElem?_drop, show n + (i - n) = i by omega, ← u2, List.getElem?_mapIdx]
      cases hz : qa.2[i]? with
      | none => rfl
      | some o => rw [na i o hz]; simp [ip_mkv, ip_cp, ei]
  · rw [List.getElem?_set_ne (Ne.symm e), ip_mk_get, ip_mk_get]
    cases ip_shp[j]? with
    | none => rfl
    | some q2 =>
      refine congrArg some ?_
      unfold ip_mkc
      refine congrArg (Prod.mk q2.1) ?_
      apply List.ext_getElem?
      intro i
      rw [List.getElem?_mapIdx, List.getElem?_mapIdx]
      cases q2.2[i]? with
      | none => rfl
      | some o => cases o <;> simp [ip_mkv, ip_cp, e]
theorem ip_in_lt {i : Int32} {n : Nat} (h : ip_in i n = true) : i.toNatClampNeg < n := Nat.not_le.mp fun q => (ip_in_vp h) (Or.inr q)
theorem ip_fit_pos {mi ci kd : Nat} {v : Value} (h : ip_fit mi ci kd v = true) : True := trivial
set_option maxHeartbeats 1000000 in
theorem ip_tH_sim {xs : Nat → Int32} {L mi : Nat} {ins : Instr} {len : Nat} {st : List Value} {σ : ip_G} {st' : List Value} {σ' : ip_G} (h : ip_tH xs L mi ins len st σ = some (st', σ')) : ip_sH xs L mi ins len st (ip_mk σ) = some (st', ip_mk σ') := by
  unfold ip_tH at h
  split at h
  · split at h
    · split at h
      · next hf =>
        split at h
        · next hc =>
          cases h
          obtain ⟨vs, h1, h2, h3⟩ := ip_cellv (σ := σ) hc.1 hc.2.2
          simp only [ip_sH, hf, h1, h3, hc.2.1, and_self, ↓reduceIte]
        · cases h
      · cases h
    · cases h
  · split at h
    · split at h
      · next hf =>
        split at h
        · next hc =>
          cases h
          obtain ⟨vs, h1, h2, h3⟩ := ip_cellv (σ := σ) hc.1 hc.2.2.1
          have h4 := hc.2.2.1
          rw [← h2] at h4
          simp only [ip_sH, hf, h1, hc.2.1, h4, hc.2.2.2.2, and_self, ↓reduceIte]
          rw [ip_mk_u2 h1 h4 hc.2.2.2.1]
        · cases h
      · cases h
    · cases h
  · split at h
    · split at h
      · next e0 =>
        split at h
        · next hc => cases h; simp only [ip_sH, e0, hc, and_self, ↓reduceIte]
        · cases h
      · next e0 =>
        split at h
        · next hc =>
          cases h
          obtain ⟨vs, h1, h2, h3⟩ := ip_cellv (σ := σ) hc.1 (ip_in_lt hc.2)
          rw [ip_rf_none hc.1 (Or.inl rfl)] at h3
          have h4 := hc.2
          rw [← h2] at h4
          simp only [ip_sH, e0, h1, h3, h4, and_self, ↓reduceIte, ip_mkv]
        · cases h
    · cases h
  · split at h
    · split at h
      · next hc =>
        cases h
        obtain ⟨vs, h1, h2, h3⟩ := ip_cellv (σ := σ) hc.1 (ip_in_lt hc.2)
        rw [ip_rf_none hc.1 (Or.inr rfl)] at h3
        have h4 := hc.2
        rw [← h2] at h4
        simp only [ip_sH, h1, h3, h4, and_self, ↓reduceIte, ip_mkv]
      · cases h
    · cases h
  · split at h
    · split at h
      · next hc =>
        cases h
        rcases hc.1 with ht | ht
        · obtain ⟨vs, h1, h2, h3⟩ := ip_cellv (σ := σ) ht (ip_in_lt hc.2)
          have h4 := hc.2
          rw [← h2] at h4
          simp only [ip_sH, h1, h3, h4, show (200 : Nat) ≤ 201 by decide, and_self, ↓reduceIte]
        · obtain ⟨vs, h1, h2, h3⟩ := ip_cellv (σ := σ) ht (ip_in_lt hc.2)
          have h4 := hc.2
          rw [← h2] at h4
          simp only [ip_sH, h1, h3, h4, show (200 : Nat) ≤ 205 by decide, and_self, ↓reduceIte]
      · cases h
    · cases h
  · split at h
    · split at h
      · next hc =>
        cases h
        obtain ⟨vs, h1, h2, h3⟩ := ip_cellv (σ := σ) hc.1 (ip_in_lt hc.2)
        have h4 := hc.2
        rw [← h2] at h4
        simp only [ip_sH, h1, h4, and_self, ↓reduceIte]
        rw [ip_mk_u2 h1 (ip_in_lt h4) (ip_rf_none hc.1 (Or.inl rfl))]
      · cases h
    · cases h
  · split at h
    · split at h
      · next hc =>
        cases h
        obtain ⟨vs, h1, h2, h3⟩ := ip_cellv (σ := σ) hc.1 (ip_in_lt hc.2.1)
        have h4 := hc.2.1
        rw [← h2] at h4
        simp only [ip_sH, h1, h4, hc.2.2, and_self, ↓reduceIte]
        rw [ip_mk_u2 h1 (ip_in_lt h4) (ip_rf_none hc.1 (Or.inr rfl))]
      · cases h
    · cases h
  · split at h
    · split at h
      · next hc => cases h; simp only [ip_sH, hc, and_self, ↓reduceIte]
      · cases h
    · cases h
  · split at h
    · next hv => cases h; simp only [ip_sH, hv]
    · cases h
  · split at h
    · next hv => cases h; simp only [ip_sH, hv]
    · cases h
  · split at h
    · next hp =>
      split at h
      · split at h
        · next hc => cases h; simp only [ip_sH, hp, hc, ↓reduceIte]
        · cases h
      · cases h
    · next hp =>
      split at h
      · split at h
        · next hc => cases h; simp only [ip_sH, hp, hc, ↓reduceIte]
        · cases h
      · cases h
    · next hp =>
      split at h
      · next n dp a sp b r =>
        split at h
        · next hc =>
          cases h
          obtain ⟨c1, c2, c3, c4, c5, c6, c7, c8⟩ := hc
          obtain ⟨q1, e1, f1⟩ := ip_tg_get c1
          obtain ⟨q2, e2, f2⟩ := ip_tg_get c2
          have g1 : (ip_mk σ)[b]? = some (100, q1.2.mapIdx (ip_mkv σ b)) := by rw [ip_mk_get, e1, ← f1]; rfl
          have g2 : (ip_mk σ)[a]? = some (100, q2.2.mapIdx (ip_mkv σ a)) := by rw [ip_mk_get, e2, ← f2]; rfl
          have l1 : ip_ln b = (q1.2.mapIdx (ip_mkv σ b)).length := by unfold ip_ln; rw [e1, List.length_mapIdx]; rfl
          have l2 : ip_ln a = (q2.2.mapIdx (ip_mkv σ a)).length := by unfold ip_ln; rw [e2, List.length_mapIdx]; rfl
          rw [l1] at c6
          rw [l2] at c7
          simp only [ip_sH, hp, g1, g2, c3, c4, c5, c6, c7, c8, not_false_eq_true, and_self, ↓reduceIte]
          rw [ip_mk_cp c2 c1 g1 g2 c6 c7]
        · cases h
      · cases h
    · cases h
  · cases h

