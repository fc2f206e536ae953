/-! SOUNDNESS of the interpreter -/
theorem ip_s0_len {pc : Nat} {ins : Instr} {len : Nat} {ls st : List Value} {o : Nat × List Value × List Value} (h : ip_s0 pc ins len ls st = some o) : o.2.1.length = ls.length := by
  unfold ip_s0 at h
  split at h
  all_goals first
    | (cases h; rfl)
    | (obtain ⟨x, -, rfl⟩ := ip_load_inv h; rfl)
    | (obtain ⟨x, -, rfl⟩ := ip_lload_inv h; rfl)
    | (obtain ⟨x, -, rfl⟩ := ip_aload_inv h; rfl)
    | (obtain ⟨x, r, -, -, rfl⟩ := ip_store_inv h; exact List.length_set ..)
    | (obtain ⟨x, r, -, -, rfl⟩ := ip_astore_inv h; exact List.length_set ..)
    | (obtain ⟨x, y, r, -, rfl⟩ := ip_bin_inv h; rfl)
    | (obtain ⟨x, r, t, -, -, rfl⟩ := ip_if1_inv h; rfl)
    | (obtain ⟨x, y, r, t, -, -, rfl⟩ := ip_if2_inv h; rfl)
    | skip
  all_goals (repeat' (split at h))
  all_goals first
    | (cases h; rfl)
    | (cases h; exact List.length_set ..)
    | (cases h; done)
theorem ip_sl_set {h : ip_H} {k t t' : Nat} {vs us : List Value} (hk : h[k]? = some (t, vs)) (hl : us.length = vs.length) : ip_sl (h.set k (t', us)) = ip_sl h := by
  unfold ip_sl
  rw [List.map_set]
  have e : (h.map (fun q => q.2.length)).set k us.length = h.map (fun q => q.2.length) := by
    apply List.ext_getElem?
    intro i
    by_cases hi : i = k
    · subst hi
      have hlt : i < h.length := (List.getElem?_eq_some_iff.mp hk).1
      rw [List.getElem?_set_self (by rw [List.length_map]; exact hlt), List.getElem?_map, hk, hl]
      rfl
    · rw [List.getElem?_set_ne (Ne.symm hi)]
  exact congrArg List.sum e
theorem ip_sH_len {xs : Nat → Int32} {L mi : Nat} {ins : Instr} {len : Nat} {st : List Value} {h : ip_H} {o : List Value × ip_H} (hs : ip_sH xs L mi ins len st h = some o) : o.2.length = h.length ∧ ip_sl o.2 = ip_sl h := by
  unfold ip_sH at hs
  split at hs
  all_goals (repeat' (split at hs))
  all_goals first
    | (cases hs; done)
    | (cases hs; exact ⟨rfl, rfl⟩)
    | (next hcell hcond => cases hs; exact ⟨List.length_set .., ip_sl_set hcell (List.length_set ..)⟩)
    | (next hcell _ hcond => cases hs; exact ⟨List.length_set .., ip_sl_set hcell (List.length_set ..)⟩)
    | (next hc0 hc1 hcond =>
        cases hs
        refine ⟨List.length_set .., ip_sl_set hc1 ?_⟩
        rw [List.length_append, List.length_take, List.length_drop]
        omega)
theorem ip_sA_len {mi : Nat} {ins : Instr} {len : Nat} {ls st : List Value} {h : ip_H} {o : List Value × ip_H} (hs : ip_sA mi ins len ls st h = some o) : ∃ q, o.2 = h ++ [q] ∧ h.length < 1000000 := by
  unfold ip_sA at hs
  split at hs
  · next hw =>
    split at hs
    all_goals (repeat' (split at hs))
    all_goals first
      | (cases hs; done)
      | (cases hs; exact ⟨_, rfl, hw.2.2.2⟩)
  · cases hs
theorem ip_run_mono (xs : Nat → Int32) (L : Nat) (fm : Value) : ∀ (n mi pc : Nat) (ls st : List Value) (h : ip_H) (r : Option Value) (h' : ip_H), ip_run xs L fm n mi pc ls st h = some (r, h') → h.length ≤ h'.length ∧ ip_sl h ≤ ip_sl h' := by
  intro n
  induction n with
  | zero => intro mi pc ls st h r h' hr; simp [ip_run] at hr
  | succ n ih =>
    intro mi pc ls st h r h' hr
    unfold ip_run at hr
    split at hr
    · cases hr
    · split at hr
      · exact ih _ _ _ _ _ _ _ hr
      · split at hr
        · next hs =>
          obtain ⟨e1, e2⟩ := ip_sH_len hs
          obtain ⟨a, b⟩ := ih _ _ _ _ _ _ _ hr
          dsimp only at e1 e2
          omega
        · split at hr
          · exact ih _ _ _ _ _ _ _ hr
          · split at hr
            · next hs =>
              obtain ⟨q, e1, -⟩ := ip_sA_len hs
              obtain ⟨a, b⟩ := ih _ _ _ _ _ _ _ hr
              dsimp only at e1
              rw [e1, List.length_append] at a
              rw [e1, ip_sl_app] at b
              exact ⟨by omega, by omega⟩
            · split at hr
              · cases hr
                exact ⟨Nat.le_refl _, Nat.le_refl _⟩
              · split at hr
                · split at hr
                  · next hc =>
                    split at hr
                    · obtain ⟨a, b⟩ := ih _ _ _ _ _ _ _ hc
                      obtain ⟨c, d⟩ := ih _ _ _ _ _ _ _ hr
                      exact ⟨Nat.le_trans a c, Nat.le_trans b d⟩
                    · cases hr
                  · cases hr
                · cases hr
/-- two address maps that agree where they must -/
def ip_agr (ad ad' : Nat → Nat) (h h' : ip_H) : Prop := (∀ k : Nat, k < h.length ∨ 1000000 ≤ k → ad' k = ad k) ∧ (h.length = h'.length → ad' = ad)
theorem ip_agr.rf {ad : Nat → Nat} {h h' : ip_H} : ip_agr ad ad h h' := ⟨fun _ _ => rfl, fun _ => rfl⟩
theorem ip_agr.tr {ad ad1 ad2 : Nat → Nat} {h h1 h2 : ip_H} (a : ip_agr ad ad1 h h1) (b : ip_agr ad1 ad2 h1 h2) (l1 : h.length ≤ h1.length) (l2 : h1.length ≤ h2.length) : ip_agr ad ad2 h h2 := by
  refine ⟨fun k hk => ?_, fun e => ?_⟩
  · rw [b.1 k (hk.imp (fun z => Nat.lt_of_lt_of_le z l1) id), a.1 k hk]
  · rw [b.2 (by omega), a.2 (by omega)]
theorem ip_agr_ext {ad : Nat → Nat} {h : ip_H} {q : Nat × List Value} {a : Nat} (hn : h.length < 1000000) : ip_agr ad (ip_ext ad h.length a) h (h ++ [q]) := by
  refine ⟨fun k hk => ?_, fun e => ?_⟩
  · have : k ≠ h.length := by omega
    simp [ip_ext, this]
  · rw [List.length_append] at e
    simp at e
theorem ip_gv_agr {ad ad' : Nat → Nat} {h h' : ip_H} (a : ip_agr ad ad' h h') {v : Value} (hw : h.length = h'.length ∨ ip_wv h.length v = true) : ip_gv ad' v = ip_gv ad v := by
  rcases hw with e | hw
  · rw [a.2 e]
  · cases v with
    | ref k =>
      have h2 : (decide (k < h.length) || decide (1000000 ≤ k)) = true := hw
      rw [Bool.or_eq_true, decide_eq_true_eq, decide_eq_true_eq] at h2
      show Value.ref (ad' k) = Value.ref (ad k)
      rw [a.1 k h2]
    | _ => rfl
theorem ip_map_agr {ad ad' : Nat → Nat} {h h' : ip_H} (a : ip_agr ad ad' h h') {l : List Value} (hw : h.length = h'.length ∨ ip_wl h.length l = true) : l.map (ip_gv ad') = l.map (ip_gv ad) := by
  apply List.map_congr_left
  intro v hv
  exact ip_gv_agr a (hw.imp id (fun z => List.all_eq_true.mp z v hv))
theorem ip_lr_agr {ad ad' : Nat → Nat} {h h' : ip_H} (a : ip_agr ad ad' h h') {l : List Value} (hw : h.length = h'.length ∨ ip_wl h.length l = true) {S : Array Slot} (hl : ip_lr ad l S) : ip_lr ad' l S := by
  refine ⟨hl.1, hl.2.1, fun i v hv hj => ?_⟩
  rw [ip_gv_agr a (hw.imp id (fun z => List.all_eq_true.mp z v (List.mem_of_getElem? hv)))]
  exact hl.2.2 i v hv hj
theorem ip_ent1_sl (ad : Nat → Nat) : ∀ vs : List Value, (lg_sl (vs.map (ip_gv ad))).length = (ip_ent1 vs).length ∧ ∀ (i : Nat) (v : Value), (ip_ent1 vs)[i]? = some v → v ≠ ip_junk → (lg_sl (vs.map (ip_gv ad)))[i]? = some (.val (ip_gv ad v))
  | [] => ⟨rfl, fun i v h => by simp [ip_ent1] at h⟩
  | w :: vs => by
    obtain ⟨h1, h2⟩ := ip_ent1_sl ad vs
    by_cases hc : w.category = 2
    · have e1 : ip_ent1 (w :: vs) = w :: ip_junk :: ip_ent1 vs := by simp [ip_ent1, hc]
      have e2 : lg_sl ((w :: vs).map (ip_gv ad)) = .val (ip_gv ad w) :: .second :: lg_sl (vs.map (ip_gv ad)) := by simp [lg_sl, ip_gv_cat, hc]
      rw [e1, e2]
      refine ⟨by simp [h1], fun i v hv hj => ?_⟩
      match i, hv with
      | 0, hv => cases hv; rfl
      | 1, hv => cases hv; exact absurd rfl hj
      | i + 2, hv => exact h2 i v hv hj
    · have e1 : ip_ent1 (w :: vs) = w :: ip_ent1 vs := by simp [ip_ent1, hc]
      have e2 : lg_sl ((w :: vs).map (ip_gv ad)) = .val (ip_gv ad w) :: lg_sl (vs.map (ip_gv ad)) := by simp [lg_sl, ip_gv_cat, hc]
      rw [e1, e2]
      refine ⟨by simp [h1], fun i v hv hj => ?_⟩
      match i, hv with
      | 0, hv => cases hv; rfl
      | i + 1, hv => exact h2 i v hv hj
theorem ip_ent_len {vs : List Value} {n : Nat} (h : (ip_ent1 vs).length ≤ n) : (ip_ent vs n).length = n := by
  unfold ip_ent
  rw [List.length_append, List.length_replicate]
  omega
theorem ip_ent_lr (ad : Nat → Nat) {vs : List Value} {n : Nat} (h : (ip_ent1 vs).length ≤ n) : ip_lr ad (ip_ent vs n) ((lg_sl (vs.map (ip_gv ad)) ++ List.replicate (n - (lg_sl (vs.map (ip_gv ad))).length) Slot.unset).toArray) := by
  obtain ⟨h1, h2⟩ := ip_ent1_sl ad vs
  have hl := lv_entry (vs.map (ip_gv ad)) (n := n) (by rw [h1]; exact h)
  refine ⟨by rw [ip_ent_len h]; exact hl.1, hl.2.1, fun i v hv hj => ?_⟩
  unfold ip_ent at hv
  by_cases hi : i < (ip_ent1 vs).length
  · rw [List.getElem?_append_left hi] at hv
    rw [List.getElem?_toArray, List.getElem?_append_left (by rw [h1]; exact hi)]
    exact h2 i v hv hj
  · rw [List.getElem?_append_right (by omega)] at hv
    exact absurd (List.mem_replicate.mp (List.mem_of_getElem? hv)).2 hj
abbrev ip_S : Type := (Nat → Nat) × List (ClassId × FieldType) × va_W
/-- what holds behind a method -/
def ip_Q (r : Option Value) (ad : Nat → Nat) (h h' : ip_H) (dC : Nat → ClassId) (dI : Nat → Nat → Nat) (A : Nat → Prop) : Array Value → State → Outcome → State → Prop := fun _ st oc t =>
  (∃ u : ip_S, oc = .returned (r.map (ip_gv u.1)) ∧ (ip_agr ad u.1 h h' ∧ ip_rel u.1 u.2.1 h' u.2.2) ∧ va_P (dC, dI) vwCl u.2.2 t.heap ∧ va_K (dC, dI) vwCl u.2.1 t ∧ va_D A u.2.2) ∧ va_F A st t
def ip_Pc (fm : Value) (ad : Nat → Nat) (dC : Nat → ClassId) (dI : Nat → Nat → Nat) (tys : List (ClassId × FieldType)) (ws : va_W) (sz : Nat) (as : List Value) : Array Value → State → Prop := va_Pc (as.map (ip_gv ad)) (fun U => U.heap.size = sz ∧ va_P (dC, dI) vwCl ws U.heap ∧ va_K (dC, dI) vwCl tys U ∧ va_D (fun _ => True) ws ∧ ip_kx fm ad (va_A ws sz) U U.heap)
def ip_ws (mi : Nat) : List Cond := ip_cw mi :: ip_W
def ip_rm (mi mc ms : Nat) : Room := { frames := ip_mV mi, cells := mc, slots := ms, locals := 36 * ip_mV mi }
/-- soundness at a fuel -/
def ip_SND (xs : Nat → Int32) (L : Nat) (fm : Value) (n : Nat) : Prop :=
  ∀ (mi pc : Nat) (ls st : List Value) (h : ip_H) (r : Option Value) (h' : ip_H), ip_run xs L fm n mi pc ls st h = some (r, h') →
  ∀ (p : Program) (l : Launch) (e : Env) (R : Room) (s : State) (m : MethodId) (args : Array Value) (below : List Frame) (meth : Method) (c : Code) (Q : State → Prop) (dC : Nat → ClassId) (dI : Nat → Nat → Nat) (A : Nat → Prop) (ad : Nat → Nat) (tys : List (ClassId × FieldType)) (ws : va_W) (H : Heap) (locs : List Loc) (cells slots : Nat) (S : Array Slot),
  ip_cx p s m args meth c R mi → ip_mV mi ≤ R.frames → 36 * ip_mV mi ≤ R.locals → ip_kx fm ad A s s.heap → ip_scr xs L ad A s mi → (∀ q, s.heap.size ≤ q → A q) →
  ls.length = ip_mL mi → ip_lr ad ls S → va_K (dC, dI) vwCl tys s → ip_rel ad tys h ws → va_P (dC, dI) vwCl ws H → va_D A ws → va_S A s.heap H locs → cells + (h'.length - h.length) ≤ R.cells → slots + (ip_sl h' - ip_sl h) ≤ R.slots →
  (∀ (ad' : Nat → Nat) (tys' : List (ClassId × FieldType)) (ws' : va_W) (H' : Heap) (locs' : List Loc) (S' : Array Slot) (pc' : Nat) (ins : Instr) (len : Nat) (st' : List Value), ip_agr ad ad' h h' → va_K (dC, dI) vwCl tys' s → ip_rel ad' tys' h' ws' → va_P (dC, dI) vwCl ws' H' → va_D A ws' → va_S A s.heap H' locs' → decode (ip_mB mi) pc' = .ok (ins, len) → ip_sR mi ins len st' = some r → W p l e R s m args below meth c H' locs' (cells + (h'.length - h.length)) (slots + (ip_sl h' - ip_sl h)) Q (F0 m pc' S' (st'.map (ip_gv ad')))) →
  W p l e R s m args below meth c H locs cells slots Q (F0 m pc S (st.map (ip_gv ad)))
