/-! THE CLAIM OUT OF THE INTERPRETER: what is left is a statement on ip_run alone -/
def ip_goal : Prop := ∀ (xs : Nat → Int32) (L : Nat) (fm : Value), L ≤ 2048 → ip_fok2 fm → ∃ (n : Nat) (h' : ip_H), ip_run xs L fm n ip_law 0 (ip_ent [.ref 1000000] 4) [] [] = some (some (.int 1), h') ∧ h'.length ≤ 600000 ∧ ip_sl h' ≤ 7302250
def R_law : String := "WeaveDraftLaw"
def lw_P (b : Addr) (xs : List Int32) (args : Array Value) (s : State) : Prop := args = #[.ref b] ∧ s.IntsAt b xs ∧ xs.length ≤ 2048 ∧ (Jvm.Cond.and given_1 narrow_1).before args s = true
def lw_Q (_ : Array Value) (s : State) (o : Outcome) (t : State) : Prop := o = .returned (some (.int 1)) ∧ Framed s o t [] 600000 7302250
def lw_Z (below : List Frame) (a : Array Value) (s : State) : State → Prop := fun t => ∃ o, t.status = .running ∧ Ended t below o ∧ lw_Q a s o t
/-- the law's own end, with 1 on the stack, nothing written that was there before, its room as the claim has it -/
theorem lw_ret {p : Program} {l : Launch} {e : Env} {s : State} {m : MethodId} {below : List Frame} {meth : Method} {c : Code} {b : Nat} (hx : p.tables.exec = Jvm.exec) (hb : c.code = code) (hr : meth.sig.returnType = ret) (hlocks : meth.locks = false) {pc : Nat} {H : Heap} {ls : Array Slot} (hdg : decode code pc = .ok (.ireturn, 1)) : W p l e room_1 s m #[Value.ref b] below meth c H [] 600000 7302250 (lw_Z below #[Value.ref b] s) (F0 m pc ls [.int 1]) := by
  intro T hT X
  obtain ⟨fs, hret, hrun, hended, hW, hframe⟩ := X.leave (v := some (.int 1)) (hlocks := hlocks) (fun h => by rw [hr] at h; cases h)
  have hmeth' : T.vm.method? m = some meth := X.method'
  refine ⟨T.setFrames fs, ?_, .returned (some (.int 1)), hrun, hended, rfl, ⟨_, rfl⟩, hW, hframe⟩
  jvm_step X.here [X.here.top, hx, hb, hdg, hmeth', hr, ret, narrow_b1]
  (try refine ⟨rfl, ?_⟩); (try refine ⟨rfl, ?_⟩)
  first | (intro acts; rw [hret _ acts rfl rfl rfl]) | rw [hret _ _ rfl rfl rfl]
  exact Steps.refl _
/-- what holds at the law's entry: the machine, the code, the tables' words (any of lw_tbl by 'hts w (by decide +kernel)'), the script of L ints xs at the cell b, what the Statement gives of the start (any of its parts by flat_of_before) -/
def lw_At (p : Program) (s : State) (m : MethodId) (meth : Method) (c : Code) (b L : Nat) (xs : Nat → Int32) : Prop :=
  p.tables.exec = Jvm.exec ∧ c.code = code ∧ meth.sig.returnType = ret ∧ c.maxLocals = 4 ∧ s.vm.findClass R_law = some m.cls ∧ (∀ w ∈ lw_tbl, w.before #[Value.ref b] s = true) ∧ va_X b L xs s s.heap ∧ b < s.heap.size ∧ meth.locks = false ∧ (Jvm.Cond.and given_1 narrow_1).before #[Value.ref b] s = true
def ip_tm (i : Nat) : Term := .string "WeaveDraft$Reader" ((ip_sk.map (fun q => q.1)).getD i 0)
theorem ip_n_len : ∀ i, i < 8 → (ip_sk.map (fun q => q.2.2.length)).getD i 0 < 2 ^ 31 := by decide +kernel
set_option maxRecDepth 100000 in
theorem ip_n_ex : ∀ i, i < 8 → Cond.exactly (ip_tm i) "java/lang/String" ∈ flatC (Jvm.Cond.and given_1 narrow_1) := by decide +kernel
set_option maxRecDepth 100000 in
theorem ip_n_co : ∀ i, i < 8 → Cond.eq (.field (ip_tm i) "java/lang/String" "coder" "B") (.int 0) ∈ flatC (Jvm.Cond.and given_1 narrow_1) := by decide +kernel
set_option maxRecDepth 100000 in
theorem ip_n_ar : ∀ i, i < 8 → Cond.arrayOf (.field (ip_tm i) "java/lang/String" "value" "[B") .byte ∈ flatC (Jvm.Cond.and given_1 narrow_1) := by decide +kernel
set_option maxRecDepth 100000 in
theorem ip_n_le : ∀ i, i < 8 → Cond.eq (.length (.field (ip_tm i) "java/lang/String" "value" "[B")) (.int (Int32.ofNat ((ip_sk.map (fun q => q.2.2.length)).getD i 0))) ∈ flatC (Jvm.Cond.and given_1 narrow_1) := by decide +kernel
set_option maxRecDepth 100000 in
theorem ip_n_el : ∀ i, i < 8 → ∀ j, j < (ip_sk.map (fun q => q.2.2.length)).getD i 0 → Cond.eq (.elem (.field (ip_tm i) "java/lang/String" "value" "[B") (.int (Int32.ofNat j))) (.int (((ip_sk.map (fun q => q.2.2)).getD i []).getD j 0)) ∈ flatC (Jvm.Cond.and given_1 narrow_1) := by decide +kernel
set_option maxRecDepth 100000 in
theorem ip_n_ne : ∀ i, i < 8 → ∀ j, j < 8 → i ≠ j → Cond.not (Cond.eq (ip_tm i) (ip_tm j)) ∈ flatC (Jvm.Cond.and given_1 narrow_1) ∨ Cond.not (Cond.eq (ip_tm j) (ip_tm i)) ∈ flatC (Jvm.Cond.and given_1 narrow_1) := by decide +kernel

theorem ip_x_st : ∀ w ∈ ([.laysStatic "java/lang/String" "COMPACT_STRINGS" "Z", .laysStatic "jdk/internal/util/Preconditions" "SIOOBE_FORMATTER" "Ljava/util/function/BiFunction;", .initialized "java/lang/String", .initialized "jdk/internal/util/Preconditions", .arrayOver (.object "WeaveDraft$Draft"), .arrayOver (.object "WeaveDraft$Spool")] : List Cond), w ∈ lw_tbl := by decide +kernel
theorem ip_x_ao : ∀ q ∈ ip_at, ip_cn q.2.2 = "WeaveDraft$Draft" ∨ ip_cn q.2.2 = "WeaveDraft$Spool" := by decide +kernel
theorem ip_x_nest : ∀ q ∈ ip_ct1, Cond.methodLinkNest (ip_on q.1) q.2.1 (ip_mY q.2.2.2.1) "WeaveDraft" ∈ lw_tbl := by decide +kernel
theorem ip_x_sr : ∀ q ∈ ip_sk, Cond.stringRef "WeaveDraft$Reader" q.1 q.2.1 ∈ lw_tbl := by decide +kernel
set_option maxRecDepth 100000 in
theorem ip_n_cs : Cond.eq (.static "java/lang/String" "COMPACT_STRINGS" "Z") (.int 1) ∈ flatC (Jvm.Cond.and given_1 narrow_1) ∧ Cond.isRef (.static "jdk/internal/util/Preconditions" "SIOOBE_FORMATTER" "Ljava/util/function/BiFunction;") ∈ flatC (Jvm.Cond.and given_1 narrow_1) := by decide +kernel
theorem ip_vkS {N : Nat} {len : List Nat} {byt : List (List Int32)} {aK aV bK bV : Nat → Nat} {A : Nat → Prop} {U : State} {H : Heap} (h : vk_S N len byt aK aV A U H) (h1 : ∀ i, i < N → bK i = aK i) (h2 : ∀ i, i < N → bV i = aV i) : vk_S N len byt bK bV A U H := by
  refine ⟨fun i hi => ?_, fun i j hi hj e => h.2 i j hi hj (by rw [← h1 i hi, ← h1 j hj]; exact e)⟩
  rw [h1 i hi, h2 i hi]
  exact h.1 i hi
/-- the addresses outside -/
def ip_ad0 (b t : Nat) (aK aV : Nat → Nat) : Nat → Nat := fun k => if k = 1000000 then b else if k = 4000000 then t else if 3000000 ≤ k then aV (k - 3000000) else aK (k - 2000000)
theorem ip_start {s : State} {b : Nat} (hts : ∀ w ∈ lw_tbl, w.before #[Value.ref b] s = true) (hgv : (Jvm.Cond.and given_1 narrow_1).before #[Value.ref b] s = true) : ∃ (ad : Nat → Nat) (fm : Value), ip_fok2 fm ∧ ad 1000000 = b ∧ ip_kx fm ad (fun q => s.heap.size ≤ q) s s.heap := by
  have hs := flat_of_before _ hgv
  have hA : ∀ a : Nat, a < s.heap.size → ¬ (fun q => s.heap.size ≤ q) a := fun a ha => Nat.not_le.mpr ha
  obtain ⟨aK, aV, hS, hE⟩ := vk_Sof (tm := ip_tm) (A := fun q => s.heap.size ≤ q) ip_n_len (fun i hi => hs _ (ip_n_ex i hi)) (fun i hi => hs _ (ip_n_co i hi)) (fun i hi => hs _ (ip_n_ar i hi)) (fun i hi => hs _ (ip_n_le i hi)) (fun i hi j hj => hs _ (ip_n_el i hi j hj)) (fun i j hi hj hij => (ip_n_ne i hi j hj hij).imp (hs _) (hs _)) hA
  have hZ := va_Zof (A := fun q => s.heap.size ≤ q) (hts _ (ip_x_st _ (List.mem_of_getElem? (i := 0) rfl))) (hts _ (ip_x_st _ (List.mem_of_getElem? (i := 2) rfl))) (va_eqt (hs _ ip_n_cs.1)) hA
  have hF := va_Zqof (A := fun q => s.heap.size ≤ q) (hts _ (ip_x_st _ (List.mem_of_getElem? (i := 1) rfl))) (hts _ (ip_x_st _ (List.mem_of_getElem? (i := 3) rfl))) (hs _ ip_n_cs.2) hA
  have key : ∀ t : Nat, ∀ j, j < 8 → ip_ad0 b t aK aV (2000000 + j) = aK j ∧ ip_ad0 b t aK aV (3000000 + j) = aV j := by
    intro t j hj
    constructor
    · unfold ip_ad0
      rw [if_neg (by omega), if_neg (by omega), if_neg (by omega), Nat.add_sub_cancel_left]
    · unfold ip_ad0
      rw [if_neg (by omega), if_neg (by omega), if_pos (by omega), Nat.add_sub_cancel_left]
  have fin : ∀ (t : Nat) (fm : Value), ip_fok2 fm → va_Z "jdk/internal/util/Preconditions" "SIOOBE_FORMATTER" "Ljava/util/function/BiFunction;" (ip_gv (ip_ad0 b t aK aV) fm) (fun q => s.heap.size ≤ q) s s.heap → ∃ (ad : Nat → Nat) (fm : Value), ip_fok2 fm ∧ ad 1000000 = b ∧ ip_kx fm ad (fun q => s.heap.size ≤ q) s s.heap := by
    intro t fm hf hz
    refine ⟨ip_ad0 b t aK aV, fm, hf, by simp [ip_ad0], ip_vkS hS (fun i hi => (key t i hi).1) (fun i hi => (key t i hi).2), fun j q hq => ?_, hZ, hz, fun q hq => ?_, fun q hq => ?_⟩
    · have hj : j < 8 := (List.getElem?_eq_some_iff.mp hq).1
      rw [(key t j hj).1]
      have he := hE j hj
      unfold ip_tm at he
      rw [List.getD_eq_getElem?_getD, List.getElem?_map, hq] at he
      exact vk_R.of (hts _ (ip_x_sr q (List.mem_of_getElem? hq))) he
    · rcases ip_x_ao q hq with e | e
      · rw [e]; exact va_AO.of (hts _ (ip_x_st _ (List.mem_of_getElem? (i := 4) rfl)))
      · rw [e]; exact va_AO.of (hts _ (ip_x_st _ (List.mem_of_getElem? (i := 5) rfl)))
    · exact va_Nw.of rfl (hts _ (ip_x_nest q hq))
  rcases hF with hz | ⟨t, hz⟩
  · exact fin 0 .null (Or.inl rfl) hz
  · exact fin t (.ref 4000000) (Or.inr rfl) (by
      have e : ip_gv (ip_ad0 b t aK aV) (.ref 4000000) = .ref t := by simp [ip_gv, ip_ad0]
      rw [e]
      exact hz)
set_option maxHeartbeats 4000000 in
theorem ip_whole (G : ip_goal) {p : Program} {e : Env} {s : State} {m : MethodId} {below : List Frame} {meth : Method} {c : Code} (l : Launch) {b L : Nat} {xs : Nat → Int32} (hL : L ≤ 2048) (C0 : lw_At p s m meth c b L xs) : W p l e room_1 s m #[Value.ref b] below meth c s.heap [] 0 0 (lw_Z below #[Value.ref b] s) (entryFrame m ([Value.ref b] : List Value).toArray 4) := by
  obtain ⟨hx, hb, hr, hml, hown, hts, hX, hbl, hlocks, hgv⟩ := C0
  obtain ⟨ad, fm, hfm, had, hkx⟩ := ip_start hts hgv
  obtain ⟨n, h', hrun, hc1, hc2⟩ := G xs L fm hL hfm
  have hkn : ∀ (k : Nat) (q : vw_C), vwCl[k]? = some q → ∃ (cC : ClassId) (iS : Nat → Nat), u_Kn s q.1 q.2.1 q.2.2 cC iS := by
    intro k q hq
    obtain ⟨-, -, -, hu, hi, -⟩ := ip_cls hq
    exact u_known hts (fun w hw => ip_W_in (hu w hw)) (hts _ (ip_W_in hi))
  have hkn2 : ∀ k : Nat, ∃ z : ClassId × (Nat → Nat), ∀ q : vw_C, vwCl[k]? = some q → u_Kn s q.1 q.2.1 q.2.2 z.1 z.2 := by
    intro k
    cases hq : vwCl[k]? with
    | none => exact ⟨(0, fun _ => 0), fun q h => by cases h⟩
    | some q =>
      obtain ⟨cC, iS, h⟩ := hkn k q hq
      exact ⟨(cC, iS), fun q2 h2 => by cases h2; exact h⟩
  obtain ⟨z, hz⟩ := Classical.axiomOfChoice hkn2
  have hK : va_K (fun k => (z k).1, fun k => (z k).2) vwCl [] s := ⟨fun k q hq => hz k q hq, fun k q h => by simp at h⟩
  have hP : va_P (fun k => (z k).1, fun k => (z k).2) vwCl [] s.heap := fun k q h => by simp at h
  have hD : va_D (fun q : Nat => s.heap.size ≤ q) [] := ⟨fun i j p q h => by simp at h, fun k q h => by simp at h⟩
  have hS : va_S (fun q : Nat => s.heap.size ≤ q) s.heap s.heap [] := va_S.rf
  have hlen : (ip_ent1 [.ref 1000000]).length ≤ 4 := by decide
  have hrel : ip_rel ad [] [] [] := ⟨rfl, fun k q h => by simp at h⟩
  have hlr := ip_ent_lr ad hlen
  have e1 : ([.ref 1000000] : List Value).map (ip_gv ad) = [.ref b] := by
    show [Value.ref (ad 1000000)] = _
    rw [had]
  rw [e1] at hlr
  rw [lg_entry_eq]
  refine ip_snd xs L fm hfm n ip_law 0 _ [] [] _ h' hrun p l e room_1 s m _ below meth c _ (fun k => (z k).1) (fun k => (z k).2) (fun q => s.heap.size ≤ q) ad [] [] s.heap [] 0 0 _ ⟨hx, hb, hml, hown, fun w hw => hts w (ip_W_in hw), by decide, by decide, fun hi => by exact absurd hi (by decide +kernel)⟩ (by decide +kernel) (by decide +kernel) hkx (fun _ => ⟨by rw [had]; exact hX, by rw [had]; exact hbl, by rw [had]; exact Nat.not_le.mpr hbl⟩) (fun _ h => h) (ip_ent_len hlen) hlr hK hrel hP hD hS ?_ ?_ ?_
  · show 0 + (h'.length - 0) ≤ 600000
    omega
  · show 0 + (ip_sl h' - 0) ≤ 7302250
    omega
  · intro ad' tys' ws' H' locs' S' pc' ins len st' hag hK' hr' hP' hD' hS' hd hsR
    have hsh : ins = .ireturn ∧ len = 1 ∧ st' = [.int 1] := by
      unfold ip_sR at hsR
      split at hsR
      · split at hsR
        · split at hsR
          · cases hsR; exact ⟨rfl, rfl, rfl⟩
          · cases hsR
        · cases hsR
      · split at hsR
        · cases hsR
        · cases hsR
      · split at hsR
        · cases hsR
        · cases hsR
      · cases hsR
    obtain ⟨rfl, rfl, rfl⟩ := hsh
    refine va_forget (fun q hq => hS'.2.2 q hq) ?_
    refine W.widen (k := 600000) (n := 7302250) ?_ ?_ ?_
    · show 0 + (h'.length - 0) ≤ 600000
      omega
    · show 0 + (ip_sl h' - 0) ≤ 7302250
      omega
    · exact lw_ret hx hb hr hlocks hd

