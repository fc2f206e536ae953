/-! THE CONTEXT that every method's body is given, and the steps on string constants -/
def ip_kx (fm : Value) (ad : Nat → Nat) (A : Nat → Prop) (U : State) (H : Heap) : Prop :=
  vk_S 8 (ip_sk.map (fun q => q.2.2.length)) (ip_sk.map (fun q => q.2.2)) (fun j => ad (2000000 + j)) (fun j => ad (3000000 + j)) A U H ∧
  (∀ (j : Nat) (q : Nat × String × List Int32), ip_sk[j]? = some q → vk_R "WeaveDraft$Reader" q.1 q.2.1 (ad (2000000 + j)) U) ∧
  va_Z "java/lang/String" "COMPACT_STRINGS" "Z" (.int 1) A U H ∧
  va_Z "jdk/internal/util/Preconditions" "SIOOBE_FORMATTER" "Ljava/util/function/BiFunction;" (ip_gv ad fm) A U H ∧
  ip_ao U ∧ (∀ q ∈ ip_ct1, va_Nw (.methodLinkNest (ip_on q.1) q.2.1 (ip_mY q.2.2.2.1) "WeaveDraft") U)
theorem ip_kx.next {fm : Value} {ad : Nat → Nat} {A B : Nat → Prop} {s U : State} {H : Heap} {locs : List Loc} (h : ip_kx fm ad A s s.heap) (hS : va_S A s.heap H locs) (hAB : ∀ q, B q → A q) (hW : s.WarmedH U.vm) (hU : U.heap = H) : ip_kx fm ad B U U.heap := by
  obtain ⟨h1, h2, h3, h4, h5, h6⟩ := h
  rw [hU]
  exact ⟨((h1.kept hS.2.1).narrow hAB).moved hW.alike, fun j q hq => (h2 j q hq).warm hW, ((h3.kept hS.2.1).narrow hAB).moved hW.alike, ((h4.kept hS.2.1).narrow hAB).moved hW.alike, fun q hq => (h5 q hq).moved hW.alike, fun q hq => (h6 q hq).warmM hW⟩
theorem ip_kx.calling {fm : Value} {ad : Nat → Nat} {A : Nat → Prop} {U : State} (g : JFrame) (mk : MethodId) (a : Array Value) (h : ip_kx fm ad A U U.heap) : ip_kx fm ad A (U.calling g mk a) (U.calling g mk a).heap := by
  obtain ⟨h1, h2, h3, h4, h5, h6⟩ := h
  exact ⟨h1.moved (u := U) (U := U.calling g mk a) (Vm.Alike.refl U.vm), fun j q hq => (h2 j q hq).same rfl, h3.moved (u := U) (U := U.calling g mk a) (Vm.Alike.refl U.vm), h4.moved (u := U) (U := U.calling g mk a) (Vm.Alike.refl U.vm), fun q hq => (h5 q hq).moved (u := U) (U := U.calling g mk a) (Vm.Alike.refl U.vm), fun q hq => (h6 q hq).same (u := U) (U := U.calling g mk a) rfl rfl⟩
def ip_fok2 (fm : Value) : Prop := fm = .null ∨ fm = .ref 4000000
theorem ip_kx.agr {fm : Value} (hf : ip_fok2 fm) {ad ad' : Nat → Nat} (hg : ∀ k : Nat, 1000000 ≤ k → ad' k = ad k) {A : Nat → Prop} {U : State} {H : Heap} (h : ip_kx fm ad A U H) : ip_kx fm ad' A U H := by
  obtain ⟨h1, h2, h3, h4, h5, h6⟩ := h
  have e1 : (fun j => ad' (2000000 + j)) = (fun j => ad (2000000 + j)) := funext fun j => hg _ (by omega)
  have e2 : (fun j => ad' (3000000 + j)) = (fun j => ad (3000000 + j)) := funext fun j => hg _ (by omega)
  have e3 : ip_gv ad' fm = ip_gv ad fm := by
    rcases hf with e | e
    · rw [e]; rfl
    · rw [e]; show Value.ref (ad' 4000000) = Value.ref (ad 4000000); rw [hg 4000000 (by omega)]
  refine ⟨by rw [e1, e2]; exact h1, fun j q hq => by rw [hg (2000000 + j) (by omega)]; exact h2 j q hq, h3, by rw [e3]; exact h4, h5, h6⟩
theorem ip_w_str : ∀ w ∈ ([.fieldLink "java/lang/String" 9 "java/lang/String" "value" "[B", .fieldLink "java/lang/String" 15 "java/lang/String" "coder" "B", .fieldLink "java/lang/String" 38 "java/lang/String" "COMPACT_STRINGS" "Z", .fieldLink "java/lang/String" 1053 "jdk/internal/util/Preconditions" "SIOOBE_FORMATTER" "Ljava/util/function/BiFunction;"] : List Cond), w ∈ ip_W := by decide +kernel
theorem ip_on_S : ip_on ip_oS = "java/lang/String" := by decide +kernel
theorem ip_on_R : ip_on ip_oR = "WeaveDraft$Reader" := by decide +kernel
theorem ip_sb_len : ∀ j, j < 8 → (ip_sb j).length = (ip_sk.map (fun q => q.2.2.length)).getD j 0 ∧ ip_sb j = (ip_sk.map (fun q => q.2.2)).getD j [] := by decide +kernel
section SNS
variable {p : Program} {l : Launch} {e : Env} {R : Room} {s : State} {m : MethodId} {args : Array Value} {below : List Frame} {meth : Method} {c : Code} {H : Heap} {locs : List Loc} {cells slots : Nat} {Q : State → Prop}
variable {pc mi : Nat} {ad : Nat → Nat} {st : List Value} {S : Array Slot} {A : Nat → Prop} {fm : Value}
set_option maxHeartbeats 1000000 in
theorem ip_sS_W (C : ip_cx p s m args meth c R mi) (hk : ip_kx fm ad A s s.heap) {ins : Instr} {len : Nat} (hd : decode (ip_mB mi) pc = .ok (ins, len)) {o : List Value} (hs : ip_sS fm mi ins len st = some o) (hS : va_S A s.heap H locs)
    (k : W p l e R s m args below meth c H locs cells slots Q (F0 m (pc + len) S (o.map (ip_gv ad)))) : W p l e R s m args below meth c H locs cells slots Q (F0 m pc S (st.map (ip_gv ad))) := by
  obtain ⟨hx, hb, hml, hown, hts, hfr, hlo, hin⟩ := C
  obtain ⟨h1, h2, h3, h4, h5, h6⟩ := hk
  unfold ip_sS at hs
  split at hs
  · next i =>
    split at hs
    · next ho =>
      rw [ho, ip_on_R] at hown
      split at hs
      · next j hj =>
        cases hs
        obtain ⟨hl, hq⟩ := List.findIdx?_eq_some_iff_getElem.mp hj
        have hq1 : ip_sk[j].1 = i := eq_of_beq hq.1
        have hR := h2 j ip_sk[j] (List.getElem?_eq_getElem hl)
        rw [hq1] at hR
        exact va_ldcS hx hb hown hR hd k
      · cases hs
    · cases hs
  · split at hs
    · next i _ q r =>
      split at hs
      · next hc =>
        obtain ⟨ha, hb2, ho⟩ := hc
        rw [ho, ip_on_S] at hown
        obtain ⟨j, rfl⟩ : ∃ j : Nat, q = 2000000 + j := ⟨q - 2000000, (Nat.add_sub_cancel' ha).symm⟩
        have hj : j < 8 := Nat.lt_of_add_lt_add_left (n := 2000000) hb2
        obtain ⟨g1, g2, g3, g4⟩ := h1.1 j hj
        split at hs
        · next e9 =>
          subst e9
          cases hs
          have e3 : ip_gv ad (.ref (2000000 + j + 1000000)) = .ref (ad (3000000 + j)) := by
            show Value.ref (ad (2000000 + j + 1000000)) = _
            rw [show 2000000 + j + 1000000 = 3000000 + j by omega]
          rw [List.map_cons, e3] at k
          exact vk_getf hx hb g3 hS hown (hts _ (ip_w_str _ (List.mem_of_getElem? (i := 0) rfl))) (fun _ z => z) hd k
        · split at hs
          · next e15 =>
            subst e15
            cases hs
            exact vk_getf hx hb g2 hS hown (hts _ (ip_w_str _ (List.mem_of_getElem? (i := 1) rfl))) (fun _ z => z) hd k
          · cases hs
      · cases hs
    · cases hs
  · split at hs
    · next q r =>
      split at hs
      · next hc =>
        obtain ⟨ha, hb2⟩ := hc
        obtain ⟨j, rfl⟩ : ∃ j : Nat, q = 3000000 + j := ⟨q - 3000000, (Nat.add_sub_cancel' ha).symm⟩
        have hj : j < 8 := Nat.lt_of_add_lt_add_left (n := 3000000) hb2
        obtain ⟨g1, g2, g3, g4⟩ := h1.1 j hj
        rw [show 3000000 + j - 3000000 = j from Nat.add_sub_cancel_left ..] at hs
        rw [(ip_sb_len j hj).1] at hs
        cases hs
        exact va_tlen hx hb g4 hS rfl hd k
      · cases hs
    · cases hs
  · split at hs
    · next i q r =>
      split at hs
      · next hc =>
        obtain ⟨ha, hb2, hi⟩ := hc
        obtain ⟨j, rfl⟩ : ∃ j : Nat, q = 3000000 + j := ⟨q - 3000000, (Nat.add_sub_cancel' ha).symm⟩
        have hj : j < 8 := Nat.lt_of_add_lt_add_left (n := 3000000) hb2
        obtain ⟨g1, g2, g3, g4⟩ := h1.1 j hj
        rw [show 3000000 + j - 3000000 = j from Nat.add_sub_cancel_left ..] at hs hi
        rw [(ip_sb_len j hj).1] at hi
        rw [(ip_sb_len j hj).2] at hs
        cases hs
        exact va_tb hx hb g4 hS (ip_in_vp hi) rfl hd k
      · cases hs
    · cases hs
  · split at hs
    · next i _ ho =>
      rw [ho, ip_on_S] at hown
      split at hs
      · next e38 =>
        subst e38
        cases hs
        exact va_gets hx hb h3 hS hown (hts _ (ip_w_str _ (List.mem_of_getElem? (i := 2) rfl))) (fun _ z => z) hd k
      · split at hs
        · next e53 =>
          subst e53
          cases hs
          exact va_gets hx hb h4 hS hown (hts _ (ip_w_str _ (List.mem_of_getElem? (i := 3) rfl))) (fun _ z => z) hd k
        · cases hs
    · cases hs
  · split at hs
    · cases hs
      exact lv_i2c hx hb hd rfl k
    · cases hs
  · cases hs
end SNS
