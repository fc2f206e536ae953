/-! SOUNDNESS of the steps that make cells -/
def ip_ext (ad : Nat → Nat) (n q : Nat) : Nat → Nat := fun j => if j = n then q else ad j
def ip_sl (h : ip_H) : Nat := (h.map (fun q => q.2.length)).sum
theorem ip_sl_app (h : ip_H) (q : Nat × List Value) : ip_sl (h ++ [q]) = ip_sl h + q.2.length := by simp [ip_sl, List.sum_append]
theorem ip_gv_ext {ad : Nat → Nat} {n q : Nat} {v : Value} (hn : n < 1000000) (h : ip_wv n v = true) : ip_gv (ip_ext ad n q) v = ip_gv ad v := by
  cases v with
  | ref k =>
    have h2 : (decide (k < n) || decide (1000000 ≤ k)) = true := h
    rw [Bool.or_eq_true, decide_eq_true_eq, decide_eq_true_eq] at h2
    have : k ≠ n := by
      rintro rfl
      rcases h2 with h2 | h2
      · exact absurd h2 (Nat.lt_irrefl _)
      · exact absurd hn (Nat.not_lt.mpr h2)
    simp [ip_gv, ip_ext, this]
  | _ => rfl
theorem ip_map_ext {ad : Nat → Nat} {n q : Nat} (hn : n < 1000000) {l : List Value} (h : ip_wl n l = true) : l.map (ip_gv (ip_ext ad n q)) = l.map (ip_gv ad) := by
  apply List.map_congr_left
  intro v hv
  exact ip_gv_ext hn (List.all_eq_true.mp h v hv)
theorem ip_lr_ext {ad : Nat → Nat} {n q : Nat} (hn : n < 1000000) {ls : List Value} (h : ip_wl n ls = true) {S : Array Slot} (hl : ip_lr ad ls S) : ip_lr (ip_ext ad n q) ls S := by
  refine ⟨hl.1, hl.2.1, fun i v hv hj => ?_⟩
  rw [ip_gv_ext hn (List.all_eq_true.mp h v (List.mem_of_getElem? hv))]
  exact hl.2.2 i v hv hj
theorem ip_app_get {α : Type} {l t : List α} {i : Nat} {v : α} (h : l[i]? = some v) : (l ++ t)[i]? = some v := by
  rw [List.getElem?_append_left (List.getElem?_eq_some_iff.mp h).1]
  exact h
theorem ip_cell_ext {ad : Nat → Nat} {n a : Nat} (hn : n < 1000000) {tys t : List (ClassId × FieldType)} {q : Nat × List Value} (hw : ip_wl n q.2 = true) {e : va_E} (h : ip_cell ad tys q e) : ip_cell (ip_ext ad n a) (tys ++ t) q e := by
  rcases h with ⟨h1, h2⟩ | ⟨h1, cA, f, t0, a1, a2, a3⟩ | ⟨h1, cA, f, t0, a1, a2, a3⟩ | ⟨h1, cA, f, t0, r, a0, a1, a2, a3⟩
  · exact Or.inl ⟨h1, by rw [ip_map_ext hn hw]; exact h2⟩
  · exact Or.inr (Or.inl ⟨h1, cA, f, t0, ip_app_get a1, a2, a3⟩)
  · exact Or.inr (Or.inr (Or.inl ⟨h1, cA, f, t0, ip_app_get a1, a2, a3⟩))
  · refine Or.inr (Or.inr (Or.inr ⟨h1, cA, f, t0, r, a0, ip_app_get a1, a2, fun i v hv => ?_⟩))
    rw [ip_gv_ext hn (List.all_eq_true.mp hw v (List.mem_of_getElem? hv))]
    exact a3 i v hv
theorem ip_rel_ext {ad : Nat → Nat} {a : Nat} {tys t : List (ClassId × FieldType)} {h : ip_H} {ws : va_W} (hn : h.length < 1000000) (hw : ip_wh h.length h = true) (hr : ip_rel ad tys h ws) {q : Nat × List Value} {e : va_E} (hc : ip_cell (ip_ext ad h.length a) (tys ++ t) q e) : ip_rel (ip_ext ad h.length a) (tys ++ t) (h ++ [q]) (ws ++ [(a, e)]) := by
  refine ⟨by rw [List.length_append, List.length_append, hr.1]; rfl, fun k q2 hk => ?_⟩
  by_cases hl : k < h.length
  · rw [List.getElem?_append_left hl] at hk
    obtain ⟨e2, h2, h3⟩ := hr.2 k q2 hk
    refine ⟨e2, ?_, ip_cell_ext hn (List.all_eq_true.mp hw q2 (List.mem_of_getElem? hk)) h3⟩
    rw [List.getElem?_append_left (by rw [hr.1]; exact hl), h2]
    have : k ≠ h.length := by omega
    simp [ip_ext, this]
  · rw [List.getElem?_append_right (by omega)] at hk
    have hz : k - h.length < 1 := (List.getElem?_eq_some_iff.mp hk).1
    have hk0 : k = h.length := by omega
    subst hk0
    rw [Nat.sub_self] at hk
    cases hk
    refine ⟨e, ?_, hc⟩
    rw [List.getElem?_append_right (by rw [hr.1]; exact Nat.le_refl _), hr.1, Nat.sub_self]
    simp [ip_ext]
theorem ip_repI (n : Nat) : ∀ (i : Nat) (v : Value), (List.replicate n (Value.int 0))[i]? = some v → v = .int ((fun _ => 0 : Nat → Int32) i) := by
  intro i v hv
  exact (List.mem_replicate.mp (List.mem_of_getElem? hv)).2
theorem ip_repQ (ad : Nat → Nat) (n : Nat) : ∀ (i : Nat) (v : Value), (List.replicate n Value.null)[i]? = some v → ip_gv ad v = va_rf ((fun _ => none : Nat → Option Nat) i) := by
  intro i v hv
  rw [(List.mem_replicate.mp (List.mem_of_getElem? hv)).2]
  rfl
theorem ip_dfl {fs : List Value} (h : ∀ v ∈ fs, v = .null ∨ v = .int 0) (ad : Nat → Nat) : fs.map (ip_gv ad) = fs := by
  induction fs with
  | nil => rfl
  | cons v fs ih =>
    rw [List.map_cons, ih (fun w hw => h w (List.mem_cons_of_mem _ hw))]
    rcases h v List.mem_cons_self with e | e <;> rw [e] <;> rfl
theorem ip_df_ok : ∀ fs ∈ ip_df, ∀ v ∈ fs, v = .null ∨ v = .int 0 := by decide +kernel
theorem ip_nt_ok : ∀ q ∈ ip_nt, ∃ c : vw_C, vwCl[q.2.2]? = some c ∧ c.1 = ip_cn q.2.2 := by
  intro q hq
  have h : q.2.2 < 9 := (by decide +kernel : ∀ q ∈ ip_nt, q.2.2 < 9) q hq
  obtain ⟨a, b, k⟩ := q
  dsimp only at h ⊢
  match k, h with
  | 0, _ => exact ⟨_, rfl, rfl⟩
  | 1, _ => exact ⟨_, rfl, rfl⟩
  | 2, _ => exact ⟨_, rfl, rfl⟩
  | 3, _ => exact ⟨_, rfl, rfl⟩
  | 4, _ => exact ⟨_, rfl, rfl⟩
  | 5, _ => exact ⟨_, rfl, rfl⟩
  | 6, _ => exact ⟨_, rfl, rfl⟩
  | 7, _ => exact ⟨_, rfl, rfl⟩
  | 8, _ => exact ⟨_, rfl, rfl⟩
theorem ip_at_nt : ∀ q ∈ ip_at, q ∈ ip_nt := by decide +kernel
theorem ip_lk_n {o i ci : Nat} (h : ip_lk ip_nt o i = some ci) : ∃ c : vw_C, vwCl[ci]? = some c ∧ Cond.classLink (ip_on o) i c.1 ∈ ip_W := by
  have hm := ip_find h
  obtain ⟨c, h1, h2⟩ := ip_nt_ok _ hm
  exact ⟨c, h1, by rw [h2]; exact ip_w_cls _ (List.mem_map.mpr ⟨_, ip_nta_n _ hm, rfl⟩)⟩
theorem ip_lk_a {o i ci : Nat} (h : ip_lk ip_at o i = some ci) : (o, i, ci) ∈ ip_at ∧ ∃ c : vw_C, vwCl[ci]? = some c ∧ c.1 = ip_cn ci ∧ Cond.classLink (ip_on o) i c.1 ∈ ip_W := by
  have hm := ip_find h
  obtain ⟨c, h1, h2⟩ := ip_nt_ok _ (ip_at_nt _ hm)
  exact ⟨hm, c, h1, h2, by rw [h2]; exact ip_w_cls _ (List.mem_map.mpr ⟨_, ip_nta_a _ hm, rfl⟩)⟩
section SNA
variable {p : Program} {l : Launch} {e : Env} {R : Room} {s : State} {m : MethodId} {args : Array Value} {below : List Frame} {meth : Method} {c : Code} {H : Heap} {locs : List Loc} {cells slots : Nat} {Q : State → Prop}
variable {pc mi : Nat} {ad : Nat → Nat} {ls st : List Value} {S : Array Slot} {dC : Nat → ClassId} {dI : Nat → Nat → Nat} {A : Nat → Prop} {ws : va_W} {tys : List (ClassId × FieldType)} {h : ip_H}
/-- arrays of references can be made -/
def ip_ao (s : State) : Prop := ∀ q ∈ ip_at, va_AO (ip_cn q.2.2) s
/-- the goal behind a new cell -/
def ip_goA (p : Program) (l : Launch) (e : Env) (R : Room) (s : State) (m : MethodId) (args : Array Value) (below : List Frame) (meth : Method) (c : Code) (locs : List Loc) (cells slots : Nat) (Q : State → Prop) (dC : Nat → ClassId) (dI : Nat → Nat → Nat) (A : Nat → Prop) (ad : Nat → Nat) (S : Array Slot) (ls : List Value) (h : ip_H) (pc : Nat) (o : List Value × ip_H) : Prop :=
  ∀ (a : Nat) (tys' : List (ClassId × FieldType)) (ws' : va_W) (H' : Heap), va_K (dC, dI) vwCl tys' s → ip_rel (ip_ext ad h.length a) tys' o.2 ws' → va_P (dC, dI) vwCl ws' H' → va_D A ws' → va_S A s.heap H' locs → ip_lr (ip_ext ad h.length a) ls S → W p l e R s m args below meth c H' locs (cells + (o.2.length - h.length)) (slots + (ip_sl o.2 - ip_sl h)) Q (F0 m pc S (o.1.map (ip_gv (ip_ext ad h.length a))))
set_option maxHeartbeats 1000000 in
theorem ip_sA_W (C : ip_cx p s m args meth c R mi) (hO : ip_ao s) {ins : Instr} {len : Nat} (hd : decode (ip_mB mi) pc = .ok (ins, len)) {o : List Value × ip_H} (hs : ip_sA mi ins len ls st h = some o) (hcc : cells + (o.2.length - h.length) ≤ R.cells) (hss : slots + (ip_sl o.2 - ip_sl h) ≤ R.slots)
    (hA : ∀ q, s.heap.size ≤ q → A q) (hl : ip_lr ad ls S) (hK : va_K (dC, dI) vwCl tys s) (hr : ip_rel ad tys h ws) (hP : va_P (dC, dI) vwCl ws H) (hD : va_D A ws) (hS : va_S A s.heap H locs)
    (k : ip_goA p l e R s m args below meth c locs cells slots Q dC dI A ad S ls h (pc + len) o) : W p l e R s m args below meth c H locs cells slots Q (F0 m pc S (st.map (ip_gv ad))) := by
  obtain ⟨hx, hb, hml, hown, hts, hfr, hlo, hin⟩ := C
  unfold ip_sA at hs
  split at hs
  · next hw =>
    obtain ⟨w1, w2, w3, w4⟩ := hw
    have fin : ∀ (q : Nat × List Value) (stk : List Value) (N len : Nat), q.2.length = N → o = (.ref h.length :: stk, h ++ [q]) → ip_wl h.length stk = true → cells + 1 ≤ R.cells ∧ slots + N ≤ R.slots ∧ (∀ (a : Nat) (t : List (ClassId × FieldType)) (ev : va_E) (H' : Heap), va_K (dC, dI) vwCl (tys ++ t) s → ip_cell (ip_ext ad h.length a) (tys ++ t) q ev → va_P (dC, dI) vwCl (ws ++ [(a, ev)]) H' → va_D A (ws ++ [(a, ev)]) → va_S A s.heap H' locs → ip_goA p l e R s m args below meth c locs cells slots Q dC dI A ad S ls h (pc + len) o → W p l e R s m args below meth c H' locs (cells + 1) (slots + N) Q (F0 m (pc + len) S (.ref a :: stk.map (ip_gv ad)))) := by
      intro q stk N len e1 e2 w
      subst e2
      have e3 : (h ++ [q]).length - h.length = 1 := by rw [List.length_append]; simp
      have e4 : ip_sl (h ++ [q]) - ip_sl h = N := by rw [ip_sl_app, e1]; omega
      dsimp only at hcc hss
      rw [e3] at hcc
      rw [e4] at hss
      refine ⟨hcc, hss, fun a t ev H' hK' hc hP' hD' hS' k => ?_⟩
      have hk := k a (tys ++ t) (ws ++ [(a, ev)]) H' hK' (ip_rel_ext w4 w3 hr hc) hP' hD' hS' (ip_lr_ext w4 w1 hl)
      dsimp only at hk
      rw [e3, e4, List.map_cons, ip_map_ext w4 w] at hk
      have e5 : ip_gv (ip_ext ad h.length a) (.ref h.length) = .ref a := by simp [ip_gv, ip_ext]
      rw [e5] at hk
      exact hk
    split at hs
    · split at hs
      · next i ci hci =>
        split at hs
        · next fs hfs =>
          cases hs
          obtain ⟨⟨C1, T1, N1⟩, h1, h2⟩ := ip_lk_n hci
          obtain ⟨hc100, ⟨ty0, hty, fs2, hf1, hf2, hf3⟩, hnm, hu, hinst, hini⟩ := ip_cls h1
          rw [hfs] at hf1
          cases hf1
          obtain ⟨g1, g2, g3⟩ := fin (ci, fs) st N1 3 hf2 rfl w2
          refine va_new hx hb hts hu ty0 hty hown (hts _ h2) (hts _ hinst) (hts _ hini) hK hP hD hS hA h1 hf3 g1 g2 hd (fun a H' hP' hD' hS' => ?_)
          exact g3 a [] _ H' (by rw [List.append_nil]; exact hK) (Or.inl ⟨hc100, by rw [ip_dfl (ip_df_ok fs (List.mem_of_getElem? hfs))]⟩) hP' hD' hS' k
        · cases hs
      · cases hs
    · split at hs
      · next n r =>
        split at hs
        · next hcond =>
          cases hs
          have w5 : ip_wl h.length r = true := by
            unfold ip_wl at w2 ⊢
            rw [List.all_cons, Bool.and_eq_true] at w2
            exact w2.2
          obtain ⟨g1, g2, g3⟩ := fin (100, List.replicate n.toNatClampNeg (.int 0)) r n.toNatClampNeg 2 (List.length_replicate ..) rfl w5
          refine va_newa (atype := .int) (a0 := (n.toNatClampNeg, .inl (fun _ => 0))) hx hb (hts _ (ip_w_oi _ (List.mem_of_getElem? (i := 10) rfl))) (ty := .int) rfl hK hP hD hS hA (fun cA => rfl) hcond.1 rfl (by show n.toNatClampNeg * 4 ≤ _; omega) g1 g2 hd (fun a cA H' hK' hP' hD' hS' => ?_)
          exact g3 a [(cA, .int)] _ H' hK' (Or.inr (Or.inl ⟨rfl, cA, _, tys.length, by simp, by rw [List.length_replicate], ip_repI _⟩)) hP' hD' hS' k
        · cases hs
      · cases hs
    · split at hs
      · next n r =>
        split at hs
        · next hcond =>
          cases hs
          have w5 : ip_wl h.length r = true := by
            unfold ip_wl at w2 ⊢
            rw [List.all_cons, Bool.and_eq_true] at w2
            exact w2.2
          obtain ⟨g1, g2, g3⟩ := fin (101, List.replicate n.toNatClampNeg (.int 0)) r n.toNatClampNeg 2 (List.length_replicate ..) rfl w5
          refine va_newa (atype := .boolean) (a0 := (n.toNatClampNeg, .inl (fun _ => 0))) hx hb (hts _ (ip_w_oi _ (List.mem_of_getElem? (i := 11) rfl))) (ty := .boolean) rfl hK hP hD hS hA (fun cA => rfl) hcond.1 rfl (by show n.toNatClampNeg * 1 ≤ _; omega) g1 g2 hd (fun a cA H' hK' hP' hD' hS' => ?_)
          exact g3 a [(cA, .boolean)] _ H' hK' (Or.inr (Or.inr (Or.inl ⟨rfl, cA, _, tys.length, by simp, by rw [List.length_replicate], ip_repI _⟩))) hP' hD' hS' k
        · cases hs
      · cases hs
    · split at hs
      · next i _ n r =>
        split at hs
        · next ci hci =>
          split at hs
          · next hcond =>
            cases hs
            have w5 : ip_wl h.length r = true := by
              unfold ip_wl at w2 ⊢
              rw [List.all_cons, Bool.and_eq_true] at w2
              exact w2.2
            obtain ⟨hm, c1, h1, h2, h3⟩ := ip_lk_a hci
            obtain ⟨g1, g2, g3⟩ := fin (200 + ci, List.replicate n.toNatClampNeg .null) r n.toNatClampNeg 3 (List.length_replicate ..) rfl w5
            refine va_newq hx hb hown (hts _ h3) (by rw [h2]; exact hO _ hm) hK hP hD hS hA hcond.1 rfl (by omega) g1 g2 hd (fun a cA H' hK' hP' hD' hS' => ?_)
            exact g3 a [(cA, .object c1.1)] _ H' hK' (Or.inr (Or.inr (Or.inr ⟨by show 200 ≤ 200 + ci; omega, cA, _, tys.length, c1, by show vwCl[200 + ci - 200]? = some c1; rw [show 200 + ci - 200 = ci by omega]; exact h1, by simp, by rw [List.length_replicate], ip_repQ _ _⟩))) hP' hD' hS' k
          · cases hs
        · cases hs
      · cases hs
    · cases hs
  · cases hs
end SNA
