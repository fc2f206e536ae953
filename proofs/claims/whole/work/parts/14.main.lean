/-! SOUNDNESS: the induction -/
theorem ip_all_m : ∀ k, k < 199 → (ip_mY k).cls = ip_on (ip_mO k) ∧ plainName (ip_mY k).cls = true ∧ 1 ≤ ip_mV k ∧ ip_mL k ≤ 17 := by decide +kernel
theorem ip_gI {a : List Cond} (h : ∀ w ∈ a, w ∈ ip_W) : GoodIn ip_W a := fun w hw => ⟨h w hw, good_of_word (List.mem_filter.mp (h w hw)).2⟩
theorem ip_ws_in {k : Nat} (hk : k < 199) : ∀ w ∈ ip_ws k, w ∈ ip_W := fun w hw => (List.mem_cons.mp hw).elim (fun e => by rw [e]; exact ip_w_code k hk) id
/-- what is checked of a call's row -/
def ip_cok (q : Nat × Nat × Nat × Nat × Nat) : Bool :=
  decide (q.2.2.2.1 < 199) && (decide ((parseMethodDescriptor (ip_mY q.2.2.2.1).desc).map (fun d => d.parameters.length) = some q.2.2.2.2) && (decide ((ip_mY q.2.2.2.1).cls ≠ "java/lang/invoke/MethodHandle" ∧ (ip_mY q.2.2.2.1).cls ≠ "java/lang/invoke/VarHandle") && (ip_lo.contains (ip_mO q.2.2.2.1) && (match q.2.2.1 with
    | 0 => ip_li.contains q.2.2.2.1 && ip_lv.contains q.2.2.2.1
    | 1 => ip_ls.contains q.2.2.2.1
    | 2 => ip_li.contains q.2.2.2.1 && (decide ((ip_mY q.2.2.2.1).name = "<init>") && decide (ip_mR q.2.2.2.1 = none))
    | 3 => ip_li.contains q.2.2.2.1 && (decide ((ip_mY q.2.2.2.1).name = "<init>") && decide (ip_mR q.2.2.2.1 = none))
    | _ => false))))
theorem ip_ct_ok : (ip_ct0 ++ ip_ct1).all ip_cok = true := by decide +kernel
theorem ip_ct_k0 : ∀ q ∈ ip_ct0, ¬ q.2.2.1 = 3 := by decide +kernel
theorem ip_ct_k1 : ∀ q ∈ ip_ct1, q.2.2.1 = 3 := by decide +kernel
theorem ip_cal_spec {o i kind cal n : Nat} (h : ip_cal o i = some (kind, cal, n)) : cal < 199 ∧ (parseMethodDescriptor (ip_mY cal).desc).map (fun d => d.parameters.length) = some n ∧ ((ip_mY cal).cls ≠ "java/lang/invoke/MethodHandle" ∧ (ip_mY cal).cls ≠ "java/lang/invoke/VarHandle") ∧ Cond.initialized (ip_mY cal).cls ∈ ip_W ∧
    (kind = 0 ∧ Cond.methodLink (ip_on o) i (ip_mY cal) ∈ ip_W ∧ Cond.instanceMethod (ip_mY cal) ∈ ip_W ∧ Cond.selects (ip_mY cal).cls (ip_mY cal) (ip_mY cal) ∈ ip_W ∨
     kind = 1 ∧ Cond.methodLink (ip_on o) i (ip_mY cal) ∈ ip_W ∧ Cond.static (ip_mY cal) ∈ ip_W ∨
     kind = 2 ∧ Cond.methodLink (ip_on o) i (ip_mY cal) ∈ ip_W ∧ Cond.instanceMethod (ip_mY cal) ∈ ip_W ∧ (ip_mY cal).name = "<init>" ∧ ip_mR cal = none ∨
     kind = 3 ∧ (o, i, kind, cal, n) ∈ ip_ct1 ∧ Cond.instanceMethod (ip_mY cal) ∈ ip_W ∧ (ip_mY cal).name = "<init>" ∧ ip_mR cal = none) := by
  have hm := ip_find h
  have hok := List.all_eq_true.mp ip_ct_ok _ hm
  unfold ip_cok at hok
  dsimp only at hok
  rw [Bool.and_eq_true, Bool.and_eq_true, Bool.and_eq_true, Bool.and_eq_true, decide_eq_true_eq, decide_eq_true_eq, decide_eq_true_eq] at hok
  obtain ⟨h1, h2, h3, h4, h5⟩ := hok
  have hI : ∀ z : ip_li.contains cal = true, Cond.instanceMethod (ip_mY cal) ∈ ip_W := fun z => ip_w_inst _ (List.mem_map.mpr ⟨cal, List.contains_iff_mem.mp z, rfl⟩)
  have hL : ¬ kind = 3 → Cond.methodLink (ip_on o) i (ip_mY cal) ∈ ip_W := fun z => by
    rcases List.mem_append.mp hm with hm | hm
    · exact ip_w_mth _ (List.mem_map.mpr ⟨_, hm, rfl⟩)
    · exact absurd (ip_ct_k1 _ hm) z
  refine ⟨h1, h2, h3, ?_, ?_⟩
  · rw [(ip_all_m cal h1).1]
    exact ip_w_ini _ (List.mem_map.mpr ⟨_, List.contains_iff_mem.mp h4, rfl⟩)
  · split at h5
    · rw [Bool.and_eq_true] at h5
      exact Or.inl ⟨rfl, hL (by decide), hI h5.1, ip_w_sel _ (List.mem_map.mpr ⟨cal, List.contains_iff_mem.mp h5.2, rfl⟩)⟩
    · exact Or.inr (Or.inl ⟨rfl, hL (by decide), ip_w_stat _ (List.mem_map.mpr ⟨cal, List.contains_iff_mem.mp h5, rfl⟩)⟩)
    · rw [Bool.and_eq_true, Bool.and_eq_true, decide_eq_true_eq, decide_eq_true_eq] at h5
      exact Or.inr (Or.inr (Or.inl ⟨rfl, hL (by decide), hI h5.1, h5.2.1, h5.2.2⟩))
    · rw [Bool.and_eq_true, Bool.and_eq_true, decide_eq_true_eq, decide_eq_true_eq] at h5
      refine Or.inr (Or.inr (Or.inr ⟨rfl, ?_, hI h5.1, h5.2.1, h5.2.2⟩))
      rcases List.mem_append.mp hm with hm | hm
      · exact absurd rfl (ip_ct_k0 _ hm)
      · exact hm
    · cases h5
set_option maxHeartbeats 1000000 in
theorem ip_met_of {xs : Nat → Int32} {L : Nat} {fm : Value} {n : Nat} (hn : ip_SND xs L fm n) {mi : Nat} {as : List Value} {h : ip_H} {r : Option Value} {h' : ip_H} (hmi : mi < 199) (hlen : (ip_ent1 as).length ≤ ip_mL mi) (hrun : ip_run xs L fm n mi 0 (ip_ent as (ip_mL mi)) [] h = some (r, h')) {ad : Nat → Nat} {tys : List (ClassId × FieldType)} {ws : va_W} (hrel : ip_rel ad tys h ws) (l : Launch) (dC : Nat → ClassId) (dI : Nat → Nat → Nat) (sz : Nat) :
    Met l (ip_mY mi) (ip_ws mi) (ip_rm mi (h'.length - h.length) (ip_sl h' - ip_sl h)) (ip_Pc fm ad dC dI tys ws sz as) (ip_Q r ad h h' dC dI (va_A ws sz)) (h'.length - h.length) (ip_sl h' - ip_sl h) (va_A ws sz) := by
  obtain ⟨a1, a2, a3, a4⟩ := ip_all_m mi hmi
  refine Met.ofW (cc := ip_mB mi) (maxL := ip_mL mi) (ret := ip_mR mi) a2 rfl ?_
  intro p e s m args below meth c s₁ B hml hv
  obtain ⟨rfl, hsz, hP, hK, hD0, hkx⟩ := hv
  have hx := B.exec
  have hb := B.bytes
  have hr := B.returns
  have hts := atoms_spec (ws := ip_ws mi) B.pre
  have hown : s.vm.findClass (ip_mY mi).cls = some m.cls := findClass_of_methodNamed B.named
  have hlocks := B.notSynchronized
  have hnm := (name_of_methodNamed B.named B.method).1
  subst hsz
  have hD := hD0.self (sz := s.heap.size)
  rw [lg_entry_eq]
  have hA : ∀ q : Nat, s.heap.size ≤ q → va_A ws s.heap.size q := fun q hq => Or.inr hq
  have hS : va_S (va_A ws s.heap.size) s.heap s.heap [] := va_S.rf
  refine hn mi 0 _ [] h r h' hrun p l e (headSpec (ip_ws mi) (ip_rm mi (h'.length - h.length) (ip_sl h' - ip_sl h))).room s m _ below meth c _ dC dI (va_A ws s.heap.size) ad tys ws s.heap [] 0 0 _ ⟨hx, hb, hml, by rw [← a1]; exact hown, fun w hw => hts w (List.mem_cons_of_mem _ hw), a3, by show 36 ≤ 36 * ip_mV mi; omega, fun hi => hnm.trans (of_decide_eq_true hi)⟩ (Nat.le_refl _) (Nat.le_refl _) hkx (fun e => absurd e (Nat.ne_of_lt hmi)) hA (ip_ent_len hlen) (ip_ent_lr ad hlen) hK hrel hP hD hS (by show 0 + _ ≤ _; rw [Nat.zero_add]; exact Nat.le_refl _) (by show 0 + _ ≤ _; rw [Nat.zero_add]; exact Nat.le_refl _) ?_
  intro ad' tys' ws' H' locs' S' pc' ins len st' hag hK' hr' hP' hD' hS' hd hsR
  rw [Nat.zero_add, Nat.zero_add]
  have hq : ∀ (rr : Option Value), r = rr → ∀ t : State, t.heap = H' → s.WarmedH t.vm → ip_Q r ad h h' dC dI (va_A ws s.heap.size) (as.map (ip_gv ad)).toArray s (.returned (rr.map (ip_gv ad'))) t := fun rr e t ht hW => ⟨⟨(ad', tys', ws'), by rw [e], ⟨hag, hr'⟩, by rw [ht]; exact hP', va_K.moved hW.alike hK', hD'⟩, hS'.F ht⟩
  unfold ip_sR at hsR
  split at hsR
  · split at hsR
    · next v _ ty hty =>
      split at hsR
      · next hnar =>
        cases hsR
        rw [hty] at hr
        exact W.zret hx hb hr hnar (hq _ rfl) hS'.2.2 hd
      · cases hsR
    · cases hsR
  · split at hsR
    · next hty =>
      cases hsR
      rw [hty] at hr
      exact W.aret hx hb hr (Or.inl ⟨_, rfl⟩) (Or.inr ⟨_, rfl⟩) (hq _ rfl) hS'.2.2 hd
    · cases hsR
  · split at hsR
    · next hty =>
      cases hsR
      rw [hty] at hr
      exact W.vret hx hb hr (hq _ rfl) hS'.2.2 hd
    · cases hsR
  · cases hsR
section CLW
variable {p : Program} {l : Launch} {e : Env} {R : Room} {s : State} {m : MethodId} {args : Array Value} {below : List Frame} {meth : Method} {c : Code} {H : Heap} {locs : List Loc} {cells slots : Nat} {Q : State → Prop}
variable {pc mc ms : Nat} {S : Array Slot} {rest st0 : List Value} {A A1 : Nat → Prop} {free : Addr → Prop}
theorem ip_callW {ad : Nat → Nat} {h h1 : ip_H} {r : Option Value} {dC : Nat → ClassId} {dI : Nat → Nat → Nat} {a : Array Value} (hr : va_Run p l e R s m args below meth c H locs cells slots mc ms (F0 m pc S st0) rest (ip_Q r ad h h1 dC dI A1 a) free) (hS : va_S A s.heap H locs) (hA : ∀ q, q < H.size → A1 q → A q) (hf : ∀ q, free q → A q)
    (kk : ∀ (u : ip_S) (H1 : Heap) (locs1 : List Loc), ip_agr ad u.1 h h1 → ip_rel u.1 u.2.1 h1 u.2.2 → va_P (dC, dI) vwCl u.2.2 H1 → va_K (dC, dI) vwCl u.2.1 s → va_D A1 u.2.2 → va_S A s.heap H1 locs1 → W p l e R s m args below meth c H1 locs1 (cells + mc) (slots + ms) Q (F0 m (pc + 3) S ((r.map (ip_gv u.1)).toList ++ rest))) : W p l e R s m args below meth c H locs cells slots Q (F0 m pc S st0) := by
  intro T hT X
  obtain ⟨v, st₀, t, T', L, h0, X', hL, e1, e2, ⟨⟨u, hv, ⟨hag, hrel⟩, hP, hK, hD⟩, hz, hk⟩, st⟩ := hr T hT X
  cases hv
  rw [h0] at hz hk
  obtain ⟨t2, a1, b1⟩ := kk u T'.heap (locs ++ L) hag hrel (by rw [e1]; exact hP) (va_K.moved (by rw [← e2]; exact X'.warmed.alike.symm) hK) hD
    ⟨Nat.le_trans hS.1 (by rw [e1]; exact hz), fun q h1 h2 => by rw [e1, hk q (Nat.lt_of_lt_of_le h1 hS.1) (fun z => h2 (hA q (Nat.lt_of_lt_of_le h1 hS.1) z))]; exact hS.2.1 q h1 h2, fun q hq => by
      rcases List.mem_append.mp hq with h | h
      · exact hS.2.2 q h
      · exact hf _ (hL q h)⟩ T' rfl X'
  exact ⟨t2, st t2 a1, b1⟩
end CLW
theorem ip_blind {fm : Value} {ad : Nat → Nat} {dC : Nat → ClassId} {dI : Nat → Nat → Nat} {tys : List (ClassId × FieldType)} {ws : va_W} {sz : Nat} {as : List Value} : FrameBlind (ip_Pc fm ad dC dI tys ws sz as) := fun a U g mk q => by
  obtain ⟨q0, q1, qP, qK, qD, qX⟩ := q
  exact ⟨q0, q1, qP, va_K.moved (u := U) (U := U.calling g mk a) (Vm.Alike.refl U.vm) qK, qD, qX.calling g mk a⟩
/-- what a call's row says -/
theorem ip_call_inv {mi : Nat} {ins : Instr} {len : Nat} {st : List Value} {h : ip_H} {cal : Nat} {as rest : List Value} (hc : ip_call mi ins len st h = some (cal, as, rest)) : len = 3 ∧ rest.length ≤ 4 ∧ ip_mV cal < ip_mV mi ∧ (ip_ent1 as).length ≤ ip_mL cal ∧ st = as.reverse ++ rest ∧
    ((∃ i n, ins = .invokestatic i ∧ ip_cal (ip_mO mi) i = some (1, cal, n) ∧ as.length = n) ∨
     (∃ i n kind q as0, (ins = .invokevirtual i ∧ kind = 0 ∨ ins = .invokespecial i ∧ (kind = 2 ∨ kind = 3)) ∧ ip_cal (ip_mO mi) i = some (kind, cal, n) ∧ as = .ref q :: as0 ∧ as0.length = n ∧
       ((∃ tag vs, h[q]? = some (tag, vs) ∧ tag < 100 ∧ (vwCl[tag]?).map (fun c => c.1) = some (ip_mY cal).cls) ∨ (2000000 ≤ q ∧ q < 2000008 ∧ (ip_mY cal).cls = "java/lang/String")))) := by
  unfold ip_call at hc
  split at hc
  · next k i hk =>
    split at hc
    · next kind cal2 n hcal =>
      dsimp only at hc
      by_cases hk1 : k = 1
      · subst hk1
        simp only [↓reduceIte] at hc
        split at hc
        · next hcond =>
          obtain ⟨c1, c2, c3, c4, c5, c6⟩ := hcond
          cases hc
          refine ⟨c1, c4, c5, c6, by rw [List.reverse_reverse, List.take_append_drop], Or.inl ⟨i, n, ?_, ?_, ?_⟩⟩
          · unfold ip_kind at hk
            split at hk
            all_goals first
              | (cases hk; done)
              | (cases hk; rfl)
          · have : kind = 1 := by omega
            rw [← this]
            exact hcal
          · rw [List.length_reverse, List.length_take]
            omega
        · cases hc
      · simp only [if_neg hk1] at hc
        split at hc
        · next hcond =>
          obtain ⟨c1, c2, c3, c4, c5, c6⟩ := hcond
          split at hc
          · next q hq =>
            have hkey : cal2 = cal ∧ (st.take (n + 1)).reverse = as ∧ st.drop (n + 1) = rest ∧ ((∃ tag vs, h[q]? = some (tag, vs) ∧ tag < 100 ∧ (vwCl[tag]?).map (fun c => c.1) = some (ip_mY cal2).cls) ∨ (2000000 ≤ q ∧ q < 2000008 ∧ (ip_mY cal2).cls = "java/lang/String")) := by
              split at hc
              · next hz =>
                cases hc
                refine ⟨rfl, rfl, rfl, ?_⟩
                unfold ip_rcv at hz
                split at hz
                · next tag vs hcell => exact Or.inl ⟨tag, vs, hcell, of_decide_eq_true hz⟩
                · exact Or.inr (of_decide_eq_true hz)
              · cases hc
            obtain ⟨rfl, rfl, rfl, hrec⟩ := hkey
            have hlt : n < st.length := by omega
            have et : st.take (n + 1) = st.take n ++ [.ref q] := by
              rw [List.take_succ, hq]
              rfl
            refine ⟨c1, c4, c5, c6, by rw [List.reverse_reverse, List.take_append_drop], Or.inr ⟨i, n, kind, q, (st.take n).reverse, ?_, hcal, by rw [et, List.reverse_append]; rfl, by rw [List.length_reverse, List.length_take]; omega, hrec⟩⟩
            unfold ip_kind at hk
            split at hk
            · cases hk
              exact Or.inl ⟨rfl, by omega⟩
            · cases hk
              exact absurd rfl hk1
            · cases hk
              exact Or.inr ⟨rfl, by omega⟩
            · cases hk
          · cases hc
        · cases hc
    · cases hc
  · cases hc
