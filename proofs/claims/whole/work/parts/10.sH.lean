theorem ip_fld_spec {o i ci sl kd : Nat} (h : ip_fld o i = some (ci, sl, kd)) : ∃ (C : String) (T : u_T) (N : Nat), vwCl[ci]? = some (C, T, N) ∧ sl < N ∧ (T sl).1 = C ∧ Cond.fieldLink (ip_on o) i (T sl).1 (T sl).2.1 (T sl).2.2.1 ∈ ip_W ∧ (kd = 0 ∧ (T sl).2.2.2 = false ∧ parseFieldDescriptor (T sl).2.2.1 = some .int ∨ kd = 1 ∧ (T sl).2.2.2 = false ∧ parseFieldDescriptor (T sl).2.2.1 = some .boolean ∨ kd = 2 ∧ (T sl).2.2.2 = true ∧ ((∃ n, parseFieldDescriptor (T sl).2.2.1 = some (.object n)) ∨ ∃ n, parseFieldDescriptor (T sl).2.2.1 = some (.array n))) := by
  have hq := ip_find h
  have hok := List.all_eq_true.mp ip_ft_ok _ hq
  have hw := ip_w_fld _ (List.mem_map.mpr ⟨_, hq, rfl⟩)
  unfold ip_fok at hok
  unfold ip_fw at hw
  dsimp only at hok hw
  cases hc : vwCl[ci]? with
  | none => rw [hc] at hok; cases hok
  | some q =>
    obtain ⟨C, T, N⟩ := q
    rw [hc] at hok hw
    dsimp only at hok hw
    rw [Bool.and_eq_true, Bool.and_eq_true, decide_eq_true_eq, decide_eq_true_eq] at hok
    refine ⟨C, T, N, rfl, hok.1, hok.2.1, hw, ?_⟩
    have h3 := hok.2.2
    split at h3
    · exact Or.inl ⟨rfl, of_decide_eq_true h3⟩
    · exact Or.inr (Or.inl ⟨rfl, of_decide_eq_true h3⟩)
    · rw [Bool.and_eq_true, decide_eq_true_eq] at h3
      refine Or.inr (Or.inr ⟨rfl, h3.1, ?_⟩)
      have h4 := h3.2
      split at h4
      · next n hn => exact Or.inl ⟨n, hn⟩
      · next n hn => exact Or.inr ⟨n, hn⟩
      · cases h4
    · cases h3
theorem ip_fit0 {mi ci : Nat} {v : Value} (h : ip_fit mi ci 0 v = true) : ∃ x, v = .int x := by
  cases v <;> first | exact ⟨_, rfl⟩ | simp [ip_fit] at h
theorem ip_fit1 {mi ci : Nat} {v : Value} (h : ip_fit mi ci 1 v = true) : v = .int 0 ∨ v = .int 1 := by
  cases v with
  | int x => rcases ip_bit01 (show ip_bit x = true from h) with rfl | rfl <;> simp
  | _ => simp [ip_fit] at h
theorem ip_fit2 {mi ci : Nat} {v : Value} (h : ip_fit mi ci 2 v = true) : ∃ x, v = .ref x ∧ ip_isInit mi = true ∧ (vwCl[ci]?).map (fun q => q.1) = some (ip_on (ip_mO mi)) := by
  cases v with
  | ref x =>
    have h2 : (ip_isInit mi && decide ((vwCl[ci]?).map (fun q => q.1) = some (ip_on (ip_mO mi)))) = true := h
    rw [Bool.and_eq_true, decide_eq_true_eq] at h2
    exact ⟨x, rfl, h2⟩
  | _ => simp [ip_fit] at h
theorem ip_prm_mem {o i k : Nat} (h : ip_prm o i = some k) : Cond.methodLink (ip_on o) i (ip_pn k) ∈ ip_W := by
  unfold ip_prm at h
  have h2 : ((ip_ct2.find? (fun q => q.1 == o && q.2.1 == i)).map (fun q => q.2.2)).map (fun z => z.1) = some k := by
    rw [Option.map_map]
    exact h
  cases hf : (ip_ct2.find? (fun q => q.1 == o && q.2.1 == i)).map (fun q => q.2.2) with
  | none => rw [hf] at h2; cases h2
  | some z =>
    rw [hf] at h2
    have hm := ip_find hf
    cases h2
    exact ip_w_prm _ (List.mem_map.mpr ⟨_, ip_ct2_s _ hm, rfl⟩)
theorem ip_lc_mem {o i : Nat} {v : Int64} (h : ip_lc o i = some v) : Cond.constantLong (ip_on o) i v ∈ ip_W := ip_w_lc _ (List.mem_map.mpr ⟨_, ip_find h, rfl⟩)
theorem ip_kc_mem {o i : Nat} {v : Int32} (h : ip_kc o i = some v) : Cond.constant (ip_on o) i v ∈ ip_W := ip_w_kc _ (List.mem_map.mpr ⟨_, ip_find h, rfl⟩)
section SNH
variable {p : Program} {l : Launch} {e : Env} {R : Room} {s : State} {m : MethodId} {args : Array Value} {below : List Frame} {meth : Method} {c : Code} {H : Heap} {locs : List Loc} {cells slots : Nat} {Q : State → Prop}
variable {pc mi : Nat} {ad : Nat → Nat} {ls st : List Value} {S : Array Slot} {dC : Nat → ClassId} {dI : Nat → Nat → Nat} {A : Nat → Prop} {ws : va_W} {tys : List (ClassId × FieldType)} {h : ip_H} {xs : Nat → Int32} {L : Nat}
/-- what holds all through a method's body -/
def ip_cx (p : Program) (s : State) (m : MethodId) (args : Array Value) (meth : Method) (c : Code) (R : Room) (mi : Nat) : Prop := p.tables.exec = Jvm.exec ∧ c.code = ip_mB mi ∧ c.maxLocals = ip_mL mi ∧ s.vm.findClass (ip_on (ip_mO mi)) = some m.cls ∧ (∀ w ∈ ip_W, w.before args s = true) ∧ 1 ≤ R.frames ∧ 36 ≤ R.locals ∧ (ip_isInit mi = true → meth.name = "<init>")
/-- the script, seen by the law alone -/
def ip_scr (xs : Nat → Int32) (L : Nat) (ad : Nat → Nat) (A : Nat → Prop) (s : State) (mi : Nat) : Prop := mi = ip_law → va_X (ad 1000000) L xs s s.heap ∧ ad 1000000 < s.heap.size ∧ ¬ A (ad 1000000)
/-- the goal behind a step on the heap -/
def ip_goH (p : Program) (l : Launch) (e : Env) (R : Room) (s : State) (m : MethodId) (args : Array Value) (below : List Frame) (meth : Method) (c : Code) (cells slots : Nat) (Q : State → Prop) (dC : Nat → ClassId) (dI : Nat → Nat → Nat) (A : Nat → Prop) (tys : List (ClassId × FieldType)) (ad : Nat → Nat) (S : Array Slot) (pc : Nat) (o : List Value × ip_H) : Prop :=
  ∀ (ws' : va_W) (H' : Heap) (locs' : List Loc), ip_rel ad tys o.2 ws' → va_P (dC, dI) vwCl ws' H' → va_D A ws' → va_S A s.heap H' locs' → W p l e R s m args below meth c H' locs' cells slots Q (F0 m pc S (o.1.map (ip_gv ad)))
set_option maxHeartbeats 1000000 in
theorem ip_sH_W (C : ip_cx p s m args meth c R mi) (hX : ip_scr xs L ad A s mi) {ins : Instr} {len : Nat} (hd : decode (ip_mB mi) pc = .ok (ins, len)) {o : List Value × ip_H} (hs : ip_sH xs L mi ins len st h = some o) (hn : S.size = c.maxLocals) (hcc : cells ≤ R.cells) (hss : slots ≤ R.slots)
    (hK : va_K (dC, dI) vwCl tys s) (hr : ip_rel ad tys h ws) (hP : va_P (dC, dI) vwCl ws H) (hD : va_D A ws) (hS : va_S A s.heap H locs)
    (k : ip_goH p l e R s m args below meth c cells slots Q dC dI A tys ad S (pc + len) o) : W p l e R s m args below meth c H locs cells slots Q (F0 m pc S (st.map (ip_gv ad))) := by
  obtain ⟨hx, hb, hml, hown, hts, hfr, hlo, hin⟩ := C
  unfold ip_sH at hs
  split at hs
  · split at hs
    · next i _ k0 r =>
      split at hs
      · next ci sl kd hfld =>
        split at hs
        · next tag vs hcell =>
          split at hs
          · next hcond =>
            obtain ⟨rfl, hci⟩ := hcond
            split at hs
            · next v hv =>
              cases hs
              obtain ⟨C, T, N, hc, hsl, -, hlink, -⟩ := ip_fld_spec hfld
              exact va_get hx hb hts (ip_cls hc).2.2.2.1 hown hK hP k0 (ip_obj hr hcell hci) hc sl hsl (hts _ hlink) (fun _ h9 => h9) (v := ip_gv ad v) (by rw [List.getElem?_map, hv]; rfl) hd (k ws H locs hr hP hD hS)
            · cases hs
          · cases hs
        · cases hs
      · cases hs
    · cases hs
  · split at hs
    · next i _ v k0 r =>
      split at hs
      · next ci sl kd hfld =>
        split at hs
        · next tag vs hcell =>
          split at hs
          · next hcond =>
            obtain ⟨rfl, hci, hlen, hfit⟩ := hcond
            cases hs
            obtain ⟨C, T, N, hc, hsl, hdecl, hlink, hkd⟩ := ip_fld_spec hfld
            obtain ⟨-, ⟨ty0, hty, -⟩, hnm, hu, -⟩ := ip_cls hc
            have hset : ∀ w : Value, ip_gv ad v = w → ip_rel ad tys (h.set k0 (tag, vs.set sl v)) (ws.set k0 (ad k0, .inr (tag, (vs.map (ip_gv ad)).set sl w))) := fun w hw => hr.set (Or.inl ⟨hci, by rw [List.map_set, hw]⟩)
            rcases hkd with ⟨rfl, hf, hp⟩ | ⟨rfl, hf, hp⟩ | ⟨rfl, hf, hp⟩
            · obtain ⟨x, rfl⟩ := ip_fit0 hfit
              exact va_put (v := .int x) hx hb hts hu ty0 hty hnm hown hK hP hD hS k0 (ip_obj hr hcell hci) hc sl hsl (hts _ hlink) (fun _ h9 => h9) hf hp rfl rfl (by rw [List.length_map]; exact hlen) hd (fun H1 locs1 p1 d1 s1 => k _ H1 locs1 (hset _ rfl) p1 d1 s1)
            · rcases ip_fit1 hfit with rfl | rfl
              · exact va_put (v := .int 0) hx hb hts hu ty0 hty hnm hown hK hP hD hS k0 (ip_obj hr hcell hci) hc sl hsl (hts _ hlink) (fun _ h9 => h9) hf hp (by decide) (by decide) (by rw [List.length_map]; exact hlen) hd (fun H1 locs1 p1 d1 s1 => k _ H1 locs1 (hset _ rfl) p1 d1 s1)
              · exact va_put (v := .int 1) hx hb hts hu ty0 hty hnm hown hK hP hD hS k0 (ip_obj hr hcell hci) hc sl hsl (hts _ hlink) (fun _ h9 => h9) hf hp (by decide) (by decide) (by rw [List.length_map]; exact hlen) hd (fun H1 locs1 p1 d1 s1 => k _ H1 locs1 (hset _ rfl) p1 d1 s1)
            · obtain ⟨x, rfl, hi1, hi2⟩ := ip_fit2 hfit
              rw [hc] at hi2
              have hd2 : (T sl).1 = ip_on (ip_mO mi) := by rw [hdecl]; exact Option.some.inj hi2
              rcases hp with ⟨n, hp⟩ | ⟨n, hp⟩
              · exact va_putF (v := .ref (ad x)) hx hb hts hu ty0 hty hnm hown hK hP hD hS k0 (ip_obj hr hcell hci) hc sl hsl (hts _ hlink) (fun _ h9 => h9) hf (hin hi1) hd2 hp rfl rfl (by rw [List.length_map]; exact hlen) hd (fun H1 locs1 p1 d1 s1 => k _ H1 locs1 (hset _ rfl) p1 d1 s1)
              · exact va_putF (v := .ref (ad x)) hx hb hts hu ty0 hty hnm hown hK hP hD hS k0 (ip_obj hr hcell hci) hc sl hsl (hts _ hlink) (fun _ h9 => h9) hf (hin hi1) hd2 hp rfl rfl (by rw [List.length_map]; exact hlen) hd (fun H1 locs1 p1 d1 s1 => k _ H1 locs1 (hset _ rfl) p1 d1 s1)
          · cases hs
        · cases hs
      · cases hs
    · cases hs
  · split at hs
    · next i k0 r =>
      split at hs
      · next e0 =>
        subst e0
        split at hs
        · next hcond =>
          cases hs
          obtain ⟨hX1, hX2, hX3⟩ := hX hcond.1
          exact va_sld hx hb hX1 hX2 hX3 hS (ip_in_vp hcond.2) hd (k ws H locs hr hP hD hS)
        · cases hs
      · split at hs
        · next tag vs hcell =>
          split at hs
          · next hcond =>
            obtain ⟨rfl, hi⟩ := hcond
            split at hs
            · next v hv =>
              cases hs
              obtain ⟨cA, f, t0, a1, a2, a3⟩ := ip_arrI hr hcell
              rw [a3 _ _ hv] at k
              exact va_iald hx hb hK hP k0 t0 a2 a1 (ip_in_vp hi) hd (k ws H locs hr hP hD hS)
            · cases hs
          · cases hs
        · cases hs
    · cases hs
  · split at hs
    · next i k0 r =>
      split at hs
      · next tag vs hcell =>
        split at hs
        · next hcond =>
          obtain ⟨rfl, hi⟩ := hcond
          split at hs
          · next v hv =>
            cases hs
            obtain ⟨cA, f, t0, a1, a2, a3⟩ := ip_arrZ hr hcell
            rw [a3 _ _ hv] at k
            exact va_zald hx hb hK hP k0 t0 a2 a1 (ip_in_vp hi) hd (k ws H locs hr hP hD hS)
          · cases hs
        · cases hs
      · cases hs
    · cases hs
  · split at hs
    · next i k0 r =>
      split at hs
      · next tag vs hcell =>
        split at hs
        · next hcond =>
          split at hs
          · next v hv =>
            cases hs
            obtain ⟨cA, f, t0, rr, a0, a1, a2, a3⟩ := ip_arrQ hr hcell hcond.1
            have hk := k ws H locs hr hP hD hS
            rw [List.map_cons, a3 _ _ hv] at hk
            exact va_aldq hx hb hK hP k0 t0 a2 a1 (ip_in_vp hcond.2) hd hk
          · cases hs
        · cases hs
      · cases hs
    · cases hs
  · split at hs
    · next x i k0 r =>
      split at hs
      · next tag vs hcell =>
        split at hs
        · next hcond =>
          obtain ⟨rfl, hi⟩ := hcond
          cases hs
          obtain ⟨cA, f, t0, a1, a2, a3⟩ := ip_arrI hr hcell
          exact va_iast hx hb hK hP hD hS k0 t0 a2 a1 (ip_in_vp hi) hd (fun H1 locs1 p1 d1 s1 => k _ H1 locs1 (hr.set (Or.inr (Or.inl ⟨rfl, cA, _, t0, a1, by rw [List.length_set], ip_updI a3 _ _⟩))) p1 d1 s1)
        · cases hs
      · cases hs
    · cases hs
  · split at hs
    · next x i k0 r =>
      split at hs
      · next tag vs hcell =>
        split at hs
        · next hcond =>
          obtain ⟨rfl, hi, hbit⟩ := hcond
          cases hs
          obtain ⟨cA, f, t0, a1, a2, a3⟩ := ip_arrZ hr hcell
          have hna : vp_nar .boolean x = x := by rcases ip_bit01 hbit with rfl | rfl <;> decide
          exact va_zast hx hb hK hP hD hS k0 t0 a2 a1 (ip_in_vp hi) hd (fun H1 locs1 p1 d1 s1 => k _ H1 locs1 (hr.set (Or.inr (Or.inr (Or.inl ⟨rfl, cA, _, t0, a1, by rw [List.length_set], by rw [hna]; exact ip_updI a3 _ _⟩)))) p1 d1 s1)
        · cases hs
      · cases hs
    · cases hs
  · split at hs
    · next v i k0 r =>
      split at hs
      · next tag vs tag2 us hcell hcv =>
        split at hs
        · next hcond =>
          obtain ⟨rfl, ht2, hi⟩ := hcond
          cases hs
          obtain ⟨cA, f, t0, rr, a0, a1, a2, a3⟩ := ip_arrQ hr hcell (by omega)
          rw [show 200 + tag2 - 200 = tag2 by omega] at a0
          exact va_astq (v := ad v) hx hb hK hP hD hS k0 t0 v tag2 a2 a1 (ip_obj hr hcv ht2) a0 (ip_in_vp hi) hd (fun H1 locs1 p1 d1 s1 => k _ H1 locs1 (hr.set (Or.inr (Or.inr (Or.inr ⟨by show 200 ≤ 200 + tag2; omega, cA, _, t0, rr, by show vwCl[200 + tag2 - 200]? = some rr; rw [show 200 + tag2 - 200 = tag2 by omega]; exact a0, a1, by rw [List.length_set], ip_updQ a3 _ _⟩)))) p1 d1 s1)
        · cases hs
      · cases hs
    · cases hs
  · split at hs
    · next k0 r =>
      split at hs
      · next hcond =>
        obtain ⟨rfl, hl⟩ := hcond
        cases hs
        obtain ⟨hX1, hX2, hX3⟩ := hX hl
        exact va_slen hx hb hX1 hX2 hX3 hS hd (k ws H locs hr hP hD hS)
      · cases hs
    · cases hs
  · split at hs
    · next v hv => cases hs; exact lv_ldc2 hx hb hown (hts _ (ip_lc_mem hv)) hd (k ws H locs hr hP hD hS)
    · cases hs
  · split at hs
    · next v hv => cases hs; exact lv_ldcw hx hb hown (hts _ (ip_kc_mem hv)) hd (k ws H locs hr hP hD hS)
    · cases hs
  · split at hs
    · next i k0 r =>
      split at hs
      · next hcond =>
        cases hs
        have hcs := ip_catsum ad r
        exact W.objInit (g := F0 m pc S (.ref (ad k0) :: r.map (ip_gv ad))) hx hb hown (hts _ (ip_prm_mem hcond.1)) (hts _ (ip_w_oi _ (List.mem_of_getElem? (i := 0) rfl))) (hts _ (ip_w_oi _ (List.mem_of_getElem? (i := 1) rfl))) rfl hn rfl hd hfr (by show 2 * 0 + _ + 12 ≤ _; omega) (k ws H locs hr hP hD hS)
      · cases hs
    · cases hs
  · split at hs
    · next hprm =>
      split at hs
      · next y x r =>
        split at hs
        · next hcond =>
          cases hs
          have hcs := ip_catsum ad r
          exact va_mmax hx hb hn.symm hown (hts _ (ip_prm_mem hprm)) (hts _ (ip_w_oi _ (List.mem_of_getElem? (i := 2) rfl))) (hts _ (ip_w_oi _ (List.mem_of_getElem? (i := 8) rfl))) (hts _ (ip_w_oi _ (List.mem_of_getElem? (i := 3) rfl))) hfr (by omega) hcc hss hd (k ws H locs hr hP hD hS)
        · cases hs
      · cases hs
    · next hprm =>
      split at hs
      · next y x r =>
        split at hs
        · next hcond =>
          cases hs
          have hcs := ip_catsum ad r
          exact va_mmin hx hb hn.symm hown (hts _ (ip_prm_mem hprm)) (hts _ (ip_w_oi _ (List.mem_of_getElem? (i := 4) rfl))) (hts _ (ip_w_oi _ (List.mem_of_getElem? (i := 8) rfl))) (hts _ (ip_w_oi _ (List.mem_of_getElem? (i := 5) rfl))) hfr (by omega) hcc hss hd (k ws H locs hr hP hD hS)
        · cases hs
      · cases hs
    · next hprm =>
      split at hs
      · next n dp a sp b r =>
        split at hs
        · next t0 vs t1 us hc0 hc1 =>
          split at hs
          · next hcond =>
            obtain ⟨rfl, rfl, rfl, rfl, hn0, hn1, hn2, hrl⟩ := hcond
            cases hs
            have hcs := ip_catsum ad r
            obtain ⟨cA, f, ta, a1, a2, a3⟩ := ip_arrI hr hc0
            obtain ⟨cB, g, tb, b1, b2, b3⟩ := ip_arrI hr hc1
            refine va_copyi hx hb hn.symm hown (hts _ (ip_prm_mem hprm)) (hts _ (ip_w_oi _ (List.mem_of_getElem? (i := 7) rfl))) (hts _ (ip_w_oi _ (List.mem_of_getElem? (i := 6) rfl))) (hts _ (ip_w_oi _ (List.mem_of_getElem? (i := 9) rfl))) hK hP hD hS b a ta tb a2 b2 a1 b1 rfl (by decide) (by decide) hn0 (by show 0 + _ ≤ _; omega) (by show 0 + _ ≤ _; omega) (fun _ _ => rfl) hfr ?_ hd (fun H1 locs1 p1 d1 s1 => k _ H1 locs1 (hr.set (Or.inr (Or.inl ⟨rfl, cB, _, tb, b1, ?_, ip_cpyI a3 b3 hn1 hn2⟩))) p1 d1 s1)
            · have : nativeFrameWords "java/lang/System" "arraycopy" 5 = 7 := by decide +kernel
              omega
            · have e1 : (vs.take n.toNatClampNeg ++ us.drop n.toNatClampNeg).length = us.length := by
                rw [List.length_append, List.length_take, List.length_drop]
                omega
              rw [e1]
              rfl
          · cases hs
        · cases hs
      · cases hs
    · cases hs
  · cases hs
end SNH
