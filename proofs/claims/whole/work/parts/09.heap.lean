/-! SOUNDNESS of the steps on the heap -/
def ip_fok (q : Nat × Nat × Nat × Nat × Nat) : Bool := match vwCl[q.2.2.1]? with
  | some (C, T, N) => decide (q.2.2.2.1 < N) && (decide ((T q.2.2.2.1).1 = C) && (match q.2.2.2.2 with
    | 0 => decide ((T q.2.2.2.1).2.2.2 = false ∧ parseFieldDescriptor (T q.2.2.2.1).2.2.1 = some .int)
    | 1 => decide ((T q.2.2.2.1).2.2.2 = false ∧ parseFieldDescriptor (T q.2.2.2.1).2.2.1 = some .boolean)
    | 2 => decide ((T q.2.2.2.1).2.2.2 = true) && (match parseFieldDescriptor (T q.2.2.2.1).2.2.1 with
      | some (.object _) => true
      | some (.array _) => true
      | _ => false)
    | _ => false))
  | none => false
theorem ip_ft_ok : ip_ft.all ip_fok = true := by decide +kernel
theorem ip_find {α : Type} {t : List (Nat × Nat × α)} {o i : Nat} {v : α} (h : (t.find? (fun q => q.1 == o && q.2.1 == i)).map (fun q => q.2.2) = some v) : (o, i, v) ∈ t := by
  cases hf : t.find? (fun q => q.1 == o && q.2.1 == i) with
  | none => rw [hf] at h; cases h
  | some q =>
    rw [hf] at h
    have h1 := List.find?_some hf
    have h2 := List.mem_of_find?_eq_some hf
    rw [Bool.and_eq_true] at h1
    obtain ⟨a, b, w⟩ := q
    have e1 : a = o := eq_of_beq h1.1
    have e2 : b = i := eq_of_beq h1.2
    subst e1
    subst e2
    cases h
    exact h2
theorem ip_cls {ci : Nat} {q : vw_C} (h : vwCl[ci]? = some q) : ci < 100 ∧ (∃ ty0 : Nat → FieldType, (∀ k, k < q.2.2 → parseFieldDescriptor (q.2.1 k).2.2.1 = some (ty0 k)) ∧ ∃ fs : List Value, ip_df[ci]? = some fs ∧ fs.length = q.2.2 ∧ ∀ j, j < q.2.2 → defaultValue (ty0 j) = vp_V fs j) ∧ (∀ a, a < q.2.2 → ∀ b, b < q.2.2 → a ≠ b → (q.2.1 a).2.1 ≠ (q.2.1 b).2.1) ∧ (∀ w ∈ u_ws q.1 q.2.1 q.2.2, w ∈ ip_W) ∧ Cond.instantiable q.1 q.2.2 ∈ ip_W ∧ Cond.initialized q.1 ∈ ip_W := by
  match ci, h with
  | 0, h =>
    cases h
    exact ⟨by decide, ⟨tyX1, tyX1_ok, _, rfl, rfl, by decide +kernel⟩, nmX1, ip_w_u0, ip_w_ins _ (List.mem_map.mpr ⟨0, ip_lb_all 0 (by decide), rfl⟩), ip_w_ini _ (List.mem_map.mpr ⟨1, by decide +kernel, rfl⟩)⟩
  | 1, h =>
    cases h
    exact ⟨by decide, ⟨tyX2, tyX2_ok, _, rfl, rfl, by decide +kernel⟩, nmX2, ip_w_u1, ip_w_ins _ (List.mem_map.mpr ⟨1, ip_lb_all 1 (by decide), rfl⟩), ip_w_ini _ (List.mem_map.mpr ⟨2, by decide +kernel, rfl⟩)⟩
  | 2, h =>
    cases h
    exact ⟨by decide, ⟨tyX3, tyX3_ok, _, rfl, rfl, by decide +kernel⟩, nmX3, ip_w_u2, ip_w_ins _ (List.mem_map.mpr ⟨2, ip_lb_all 2 (by decide), rfl⟩), ip_w_ini _ (List.mem_map.mpr ⟨3, by decide +kernel, rfl⟩)⟩
  | 3, h =>
    cases h
    exact ⟨by decide, ⟨tyX4, tyX4_ok, _, rfl, rfl, by decide +kernel⟩, nmX4, ip_w_u3, ip_w_ins _ (List.mem_map.mpr ⟨3, ip_lb_all 3 (by decide), rfl⟩), ip_w_ini _ (List.mem_map.mpr ⟨4, by decide +kernel, rfl⟩)⟩
  | 4, h =>
    cases h
    exact ⟨by decide, ⟨tyX5, tyX5_ok, _, rfl, rfl, by decide +kernel⟩, nmX5, ip_w_u4, ip_w_ins _ (List.mem_map.mpr ⟨4, ip_lb_all 4 (by decide), rfl⟩), ip_w_ini _ (List.mem_map.mpr ⟨5, by decide +kernel, rfl⟩)⟩
  | 5, h =>
    cases h
    exact ⟨by decide, ⟨tyX6, tyX6_ok, _, rfl, rfl, by decide +kernel⟩, nmX6, ip_w_u5, ip_w_ins _ (List.mem_map.mpr ⟨5, ip_lb_all 5 (by decide), rfl⟩), ip_w_ini _ (List.mem_map.mpr ⟨6, by decide +kernel, rfl⟩)⟩
  | 6, h =>
    cases h
    exact ⟨by decide, ⟨tyX7, tyX7_ok, _, rfl, rfl, by decide +kernel⟩, nmX7, ip_w_u6, ip_w_ins _ (List.mem_map.mpr ⟨6, ip_lb_all 6 (by decide), rfl⟩), ip_w_ini _ (List.mem_map.mpr ⟨7, by decide +kernel, rfl⟩)⟩
  | 7, h =>
    cases h
    exact ⟨by decide, ⟨tyX8, tyX8_ok, _, rfl, rfl, by decide +kernel⟩, nmX8, ip_w_u7, ip_w_ins _ (List.mem_map.mpr ⟨7, ip_lb_all 7 (by decide), rfl⟩), ip_w_ini _ (List.mem_map.mpr ⟨8, by decide +kernel, rfl⟩)⟩
  | 8, h =>
    cases h
    exact ⟨by decide, ⟨tyX9, tyX9_ok, _, rfl, rfl, by decide +kernel⟩, nmX9, ip_w_u8, ip_w_ins _ (List.mem_map.mpr ⟨8, ip_lb_all 8 (by decide), rfl⟩), ip_w_ini _ (List.mem_map.mpr ⟨9, by decide +kernel, rfl⟩)⟩
  | k + 9, h => simp [vwCl] at h
def ip_cell (ad : Nat → Nat) (tys : List (ClassId × FieldType)) (q : Nat × List Value) (e : va_E) : Prop :=
  (q.1 < 100 ∧ e = .inr (q.1, q.2.map (ip_gv ad))) ∨
  (q.1 = 100 ∧ ∃ (cA : ClassId) (f : Nat → Int32) (t0 : Nat), tys[t0]? = some (cA, .int) ∧ e = .inl (cA, q.2.length, .inl f) ∧ ∀ (i : Nat) (v : Value), q.2[i]? = some v → v = .int (f i)) ∨
  (q.1 = 101 ∧ ∃ (cA : ClassId) (f : Nat → Int32) (t0 : Nat), tys[t0]? = some (cA, .boolean) ∧ e = .inl (cA, q.2.length, .inl f) ∧ ∀ (i : Nat) (v : Value), q.2[i]? = some v → v = .int (f i)) ∨
  (200 ≤ q.1 ∧ ∃ (cA : ClassId) (f : Nat → Option Nat) (t0 : Nat) (r : vw_C), vwCl[q.1 - 200]? = some r ∧ tys[t0]? = some (cA, .object r.1) ∧ e = .inl (cA, q.2.length, .inr (.inr (.inr (.inr f)))) ∧ ∀ (i : Nat) (v : Value), q.2[i]? = some v → ip_gv ad v = va_rf (f i))
def ip_rel (ad : Nat → Nat) (tys : List (ClassId × FieldType)) (h : ip_H) (ws : va_W) : Prop := ws.length = h.length ∧ ∀ (k : Nat) (q : Nat × List Value), h[k]? = some q → ∃ e : va_E, ws[k]? = some (ad k, e) ∧ ip_cell ad tys q e
theorem ip_rel.set {ad : Nat → Nat} {tys : List (ClassId × FieldType)} {h : ip_H} {ws : va_W} (hr : ip_rel ad tys h ws) {k : Nat} {q : Nat × List Value} {e : va_E} (hc : ip_cell ad tys q e) : ip_rel ad tys (h.set k q) (ws.set k (ad k, e)) := by
  refine ⟨by rw [List.length_set, List.length_set]; exact hr.1, fun j q2 hj => ?_⟩
  by_cases e1 : j = k
  · subst e1
    have hl : j < h.length := by
      have := (List.getElem?_eq_some_iff.mp hj).1
      rw [List.length_set] at this
      exact this
    rw [List.getElem?_set_self hl] at hj
    cases hj
    exact ⟨e, List.getElem?_set_self (by rw [hr.1]; exact hl), hc⟩
  · rw [List.getElem?_set_ne (Ne.symm e1)] at hj
    obtain ⟨e2, h2, h3⟩ := hr.2 j q2 hj
    exact ⟨e2, by rw [List.getElem?_set_ne (Ne.symm e1)]; exact h2, h3⟩
theorem ip_obj {ad : Nat → Nat} {tys : List (ClassId × FieldType)} {h : ip_H} {ws : va_W} (hr : ip_rel ad tys h ws) {k ci : Nat} {vs : List Value} (hk : h[k]? = some (ci, vs)) (hc : ci < 100) : ws[k]? = some (ad k, .inr (ci, vs.map (ip_gv ad))) := by
  obtain ⟨e, h1, h2⟩ := hr.2 k _ hk
  rcases h2 with ⟨_, rfl⟩ | ⟨h3, _⟩ | ⟨h3, _⟩ | ⟨h3, _⟩
  · exact h1
  · simp at h3; omega
  · simp at h3; omega
  · simp at h3; omega
theorem ip_arrI {ad : Nat → Nat} {tys : List (ClassId × FieldType)} {h : ip_H} {ws : va_W} (hr : ip_rel ad tys h ws) {k : Nat} {vs : List Value} (hk : h[k]? = some (100, vs)) : ∃ (cA : ClassId) (f : Nat → Int32) (t0 : Nat), tys[t0]? = some (cA, .int) ∧ ws[k]? = some (ad k, .inl (cA, vs.length, .inl f)) ∧ ∀ (i : Nat) (v : Value), vs[i]? = some v → v = .int (f i) := by
  obtain ⟨e, h1, h2⟩ := hr.2 k _ hk
  rcases h2 with ⟨h3, _⟩ | ⟨_, cA, f, t0, a1, rfl, a3⟩ | ⟨h3, _⟩ | ⟨h3, _⟩
  · simp at h3
  · exact ⟨cA, f, t0, a1, h1, a3⟩
  · simp at h3
  · simp at h3
theorem ip_arrZ {ad : Nat → Nat} {tys : List (ClassId × FieldType)} {h : ip_H} {ws : va_W} (hr : ip_rel ad tys h ws) {k : Nat} {vs : List Value} (hk : h[k]? = some (101, vs)) : ∃ (cA : ClassId) (f : Nat → Int32) (t0 : Nat), tys[t0]? = some (cA, .boolean) ∧ ws[k]? = some (ad k, .inl (cA, vs.length, .inl f)) ∧ ∀ (i : Nat) (v : Value), vs[i]? = some v → v = .int (f i) := by
  obtain ⟨e, h1, h2⟩ := hr.2 k _ hk
  rcases h2 with ⟨h3, _⟩ | ⟨h3, _⟩ | ⟨_, cA, f, t0, a1, rfl, a3⟩ | ⟨h3, _⟩
  · simp at h3
  · simp at h3
  · exact ⟨cA, f, t0, a1, h1, a3⟩
  · simp at h3
theorem ip_arrQ {ad : Nat → Nat} {tys : List (ClassId × FieldType)} {h : ip_H} {ws : va_W} (hr : ip_rel ad tys h ws) {k tag : Nat} {vs : List Value} (hk : h[k]? = some (tag, vs)) (ht : 200 ≤ tag) : ∃ (cA : ClassId) (f : Nat → Option Nat) (t0 : Nat) (r : vw_C), vwCl[tag - 200]? = some r ∧ tys[t0]? = some (cA, .object r.1) ∧ ws[k]? = some (ad k, .inl (cA, vs.length, .inr (.inr (.inr (.inr f))))) ∧ ∀ (i : Nat) (v : Value), vs[i]? = some v → ip_gv ad v = va_rf (f i) := by
  obtain ⟨e, h1, h2⟩ := hr.2 k _ hk
  rcases h2 with ⟨h3, _⟩ | ⟨h3, _⟩ | ⟨h3, _⟩ | ⟨_, cA, f, t0, r, a0, a1, rfl, a3⟩
  · simp at h3; omega
  · simp at h3; omega
  · simp at h3; omega
  · exact ⟨cA, f, t0, r, a0, a1, h1, a3⟩
theorem ip_in_vp {i : Int32} {n : Nat} (h : ip_in i n = true) : vp_in i n := by
  unfold ip_in at h
  exact of_decide_eq_true (p := ¬ (i < 0 ∨ n ≤ i.toNatClampNeg)) h
theorem ip_updI {vs : List Value} {f : Nat → Int32} (h : ∀ (i : Nat) (v : Value), vs[i]? = some v → v = .int (f i)) (k : Nat) (x : Int32) : ∀ (i : Nat) (v : Value), (vs.set k (.int x))[i]? = some v → v = .int (upd f k x i) := by
  intro i v hv
  by_cases e : i = k
  · subst e
    have hl : i < vs.length := by
      have := (List.getElem?_eq_some_iff.mp hv).1
      rw [List.length_set] at this
      exact this
    rw [List.getElem?_set_self hl] at hv
    cases hv
    simp [upd]
  · rw [List.getElem?_set_ne (Ne.symm e)] at hv
    rw [h i v hv]
    simp [upd, e]
theorem ip_updQ {ad : Nat → Nat} {vs : List Value} {f : Nat → Option Nat} (h : ∀ (i : Nat) (v : Value), vs[i]? = some v → ip_gv ad v = va_rf (f i)) (k a : Nat) : ∀ (i : Nat) (v : Value), (vs.set k (.ref a))[i]? = some v → ip_gv ad v = va_rf (va_up f k (some (ad a)) i) := by
  intro i v hv
  by_cases e : i = k
  · subst e
    have hl : i < vs.length := by
      have := (List.getElem?_eq_some_iff.mp hv).1
      rw [List.length_set] at this
      exact this
    rw [List.getElem?_set_self hl] at hv
    cases hv
    simp [va_up, ip_gv, va_rf]
  · rw [List.getElem?_set_ne (Ne.symm e)] at hv
    rw [h i v hv]
    simp [va_up, e]
theorem ip_cpyI {vs us : List Value} {f g : Nat → Int32} {n : Nat} (h1 : ∀ (i : Nat) (v : Value), vs[i]? = some v → v = .int (f i)) (h2 : ∀ (i : Nat) (v : Value), us[i]? = some v → v = .int (g i)) (hn : n ≤ vs.length) (hm : n ≤ us.length) : ∀ (i : Nat) (v : Value), (vs.take n ++ us.drop n)[i]? = some v → v = .int (va_cpy f g 0 0 n i) := by
  intro i v hv
  have hl : (vs.take n).length = n := by rw [List.length_take]; omega
  by_cases e : i < n
  · rw [List.getElem?_append_left (by omega), List.getElem?_take_of_lt e] at hv
    rw [h1 i v hv]
    simp [va_cpy, e]
  · rw [List.getElem?_append_right (by omega), hl, List.getElem?_drop, show n + (i - n) = i by omega] at hv
    rw [h2 i v hv]
    simp [va_cpy, e]
theorem ip_bit01 {x : Int32} (h : ip_bit x = true) : x = 0 ∨ x = 1 := by
  unfold ip_bit at h
  rw [Bool.or_eq_true, decide_eq_true_eq, decide_eq_true_eq] at h
  exact h
theorem ip_catsum (ad : Nat → Nat) : ∀ r : List Value, ((r.map (ip_gv ad)).map fun v => v.category).sum ≤ 2 * r.length
  | [] => Nat.le_refl 0
  | v :: r => by
    have h := ip_catsum ad r
    have hc : (ip_gv ad v).category ≤ 2 := by rcases lv_cat (ip_gv ad v) with e | e <;> omega
    simp only [List.map_cons, List.sum_cons, List.length_cons] at *
    omega

