/-! wp: an equation a kind of instruction -/
def ip_rr (k i : Nat) : Nat := (ip_rf k i).getD 0
/-- slots are as the fields' kinds say -/
theorem ip_ft_shp : ∀ f ∈ ip_ft, ∀ q ∈ ip_shp, q.1 = f.2.2.1 → f.2.2.1 < 100 ∧ f.2.2.2.1 < q.2.length ∧ (f.2.2.2.2 = 2 → ((q.2[f.2.2.2.1]?).join).isSome = true) ∧ (f.2.2.2.2 ≠ 2 → (q.2[f.2.2.2.1]?).join = none) := by decide +kernel
theorem ip_shp_q : ∀ q ∈ ip_shp, q.1 = 201 ∨ q.1 = 205 → ∀ o ∈ q.2, o.isSome = true := by decide +kernel
theorem ip_shp_l : ∀ q ∈ ip_shp, q.2.length < 1000 := by decide +kernel
theorem ip_ln_lt (k : Nat) : ip_ln k < 1000 := by
  unfold ip_ln
  cases hq : ip_shp[k]? with
  | none => exact (by decide : (0 : Nat) < 1000)
  | some q => exact ip_shp_l q (List.mem_of_getElem? hq)
theorem ip_inN {j n : Nat} (h : j < n) (hn : n < 2147483648) : ip_in (nI j) n = true := by
  unfold ip_in
  exact decide_eq_true (vp_in_nI h hn)
theorem ip_clN {j : Nat} (h : j < 2147483648) : (nI j).toNatClampNeg = j := nI_clamp h
theorem ip_fld_shp {o i ci sl kd k : Nat} (hf : ip_fld o i = some (ci, sl, kd)) (ht : ip_tg k = some ci) : ci < 100 ∧ sl < ip_ln k ∧ (kd = 2 → ip_rf k sl = some (ip_rr k sl)) ∧ (kd ≠ 2 → ip_rf k sl = none) := by
  obtain ⟨q, h1, h2⟩ := ip_tg_get ht
  have h := ip_ft_shp _ (ip_find hf) q (List.mem_of_getElem? h1) h2
  dsimp only at h
  obtain ⟨a, b, c, d⟩ := h
  have e1 : ip_ln k = q.2.length := by unfold ip_ln; rw [h1]; rfl
  have e2 : ip_rf k sl = (q.2[sl]?).join := by unfold ip_rf; rw [h1]; rfl
  refine ⟨a, by rw [e1]; exact b, fun z => ?_, fun z => by rw [e2]; exact d z⟩
  unfold ip_rr
  rw [e2]
  have := c z
  cases hz : (q.2[sl]?).join with
  | none => rw [hz] at this; cases this
  | some x => rfl
theorem ip_tg_ext (t : Nat) : ¬ ip_tg 1000000 = some t := by
  rw [show ip_tg 1000000 = none from by decide +kernel]
  intro h
  cases h
section WPI
variable {E : ip_E} {mi pc i k sl ci kd j a b n : Nat} {ls st : List Value} {σ : ip_G} {κ : Option Value → ip_G → Prop} {x y v : Int32}
theorem wp_getI (hd : decode (ip_mB mi) pc = .ok (.getfield i, 3)) (hf : ip_fld (ip_mO mi) i = some (ci, sl, kd)) (hk : kd ≠ 2) (ht : ip_tg k = some ci) : wp E mi pc ls (.ref k :: st) σ κ = wp E mi (pc + 3) ls (.int (σ k sl) :: st) σ κ := by
  obtain ⟨g1, g2, -, g4⟩ := ip_fld_shp hf ht
  refine wp_tH hd rfl ?_
  simp only [ip_tH, hf, ht, g1, g2, g4 hk, ip_mkv, and_self, ↓reduceIte]
theorem wp_getR (hd : decode (ip_mB mi) pc = .ok (.getfield i, 3)) (hf : ip_fld (ip_mO mi) i = some (ci, sl, 2)) (ht : ip_tg k = some ci) : wp E mi pc ls (.ref k :: st) σ κ = wp E mi (pc + 3) ls (.ref (ip_rr k sl) :: st) σ κ := by
  obtain ⟨g1, g2, g3, -⟩ := ip_fld_shp hf ht
  refine wp_tH hd rfl ?_
  simp only [ip_tH, hf, ht, g1, g2, g3 rfl, ip_mkv, and_self, ↓reduceIte]
theorem wp_putI (hd : decode (ip_mB mi) pc = .ok (.putfield i, 3)) (hf : ip_fld (ip_mO mi) i = some (ci, sl, 0)) (ht : ip_tg k = some ci) : wp E mi pc ls (.int v :: .ref k :: st) σ κ = wp E mi (pc + 3) ls st (ip_u2 σ k sl v) κ := by
  obtain ⟨g1, g2, -, g4⟩ := ip_fld_shp hf ht
  refine wp_tH hd rfl ?_
  simp only [ip_tH, hf, ht, g1, g2, g4 (by decide), ip_fit, and_self, ↓reduceIte]
theorem ip_bit_of (h : v = 0 ∨ v = 1) : ip_bit v = true := by rcases h with rfl | rfl <;> decide
theorem wp_putZ (hd : decode (ip_mB mi) pc = .ok (.putfield i, 3)) (hf : ip_fld (ip_mO mi) i = some (ci, sl, 1)) (ht : ip_tg k = some ci) (hv : v = 0 ∨ v = 1) : wp E mi pc ls (.int v :: .ref k :: st) σ κ = wp E mi (pc + 3) ls st (ip_u2 σ k sl v) κ := by
  obtain ⟨g1, g2, -, g4⟩ := ip_fld_shp hf ht
  refine wp_tH hd rfl ?_
  simp only [ip_tH, hf, ht, g1, g2, g4 (by decide), ip_fit, ip_bit_of hv, and_self, ↓reduceIte]
theorem wp_iald (hd : decode (ip_mB mi) pc = .ok (.iaload, 1)) (ht : ip_tg k = some 100) (hj : j < ip_ln k) : wp E mi pc ls (.int (nI j) :: .ref k :: st) σ κ = wp E mi (pc + 1) ls (.int (σ k j) :: st) σ κ := by
  have hl := ip_ln_lt k
  have hk : ¬ k = 1000000 := fun z => ip_tg_ext 100 (z ▸ ht)
  refine wp_tH hd rfl ?_
  simp only [ip_tH, hk, ht, ip_inN hj (by omega), ip_clN (show j < 2147483648 by omega), and_self, ↓reduceIte]
theorem wp_bald (hd : decode (ip_mB mi) pc = .ok (.baload, 1)) (ht : ip_tg k = some 101) (hj : j < ip_ln k) : wp E mi pc ls (.int (nI j) :: .ref k :: st) σ κ = wp E mi (pc + 1) ls (.int (σ k j) :: st) σ κ := by
  have hl := ip_ln_lt k
  refine wp_tH hd rfl ?_
  simp only [ip_tH, ht, ip_inN hj (by omega), ip_clN (show j < 2147483648 by omega), and_self, ↓reduceIte]
theorem wp_aald (hd : decode (ip_mB mi) pc = .ok (.aaload, 1)) (ht : ip_tg k = some 201 ∨ ip_tg k = some 205) (hj : j < ip_ln k) : wp E mi pc ls (.int (nI j) :: .ref k :: st) σ κ = wp E mi (pc + 1) ls (.ref (ip_rr k j) :: st) σ κ := by
  have hl := ip_ln_lt k
  have hr : ip_rf k j = some (ip_rr k j) := by
    have hq : ∃ q, ip_shp[k]? = some q ∧ (q.1 = 201 ∨ q.1 = 205) := by
      rcases ht with ht | ht
      · obtain ⟨q, h1, h2⟩ := ip_tg_get ht; exact ⟨q, h1, Or.inl h2⟩
      · obtain ⟨q, h1, h2⟩ := ip_tg_get ht; exact ⟨q, h1, Or.inr h2⟩
    obtain ⟨q, h1, h2⟩ := hq
    have e1 : ip_ln k = q.2.length := by unfold ip_ln; rw [h1]; rfl
    have e2 : ip_rf k j = (q.2[j]?).join := by unfold ip_rf; rw [h1]; rfl
    have hlt : j < q.2.length := by omega
    unfold ip_rr
    rw [e2, List.getElem?_eq_getElem hlt]
    have := ip_shp_q q (List.mem_of_getElem? h1) h2 q.2[j] (List.getElem_mem hlt)
    show q.2[j] = some (q.2[j].getD 0)
    cases hz : q.2[j] with
    | none => rw [hz] at this; cases this
    | some w => rfl
  refine wp_tH hd rfl ?_
  simp only [ip_tH, ht, ip_inN hj (by omega), ip_clN (show j < 2147483648 by omega), hr, ip_mkv, and_self, ↓reduceIte]
theorem wp_iast (hd : decode (ip_mB mi) pc = .ok (.iastore, 1)) (ht : ip_tg k = some 100) (hj : j < ip_ln k) : wp E mi pc ls (.int x :: .int (nI j) :: .ref k :: st) σ κ = wp E mi (pc + 1) ls st (ip_u2 σ k j x) κ := by
  have hl := ip_ln_lt k
  refine wp_tH hd rfl ?_
  simp only [ip_tH, ht, ip_inN hj (by omega), ip_clN (show j < 2147483648 by omega), and_self, ↓reduceIte]
theorem wp_bast (hd : decode (ip_mB mi) pc = .ok (.bastore, 1)) (ht : ip_tg k = some 101) (hj : j < ip_ln k) (hx : x = 0 ∨ x = 1) : wp E mi pc ls (.int x :: .int (nI j) :: .ref k :: st) σ κ = wp E mi (pc + 1) ls st (ip_u2 σ k j x) κ := by
  have hl := ip_ln_lt k
  refine wp_tH hd rfl ?_
  simp only [ip_tH, ht, ip_inN hj (by omega), ip_clN (show j < 2147483648 by omega), ip_bit_of hx, and_self, ↓reduceIte]
theorem wp_scr (hd : decode (ip_mB mi) pc = .ok (.iaload, 1)) (hm : mi = ip_law) (hL : E.2.1 ≤ 2048) (hj : j < E.2.1) : wp E mi pc ls (.int (nI j) :: .ref 1000000 :: st) σ κ = wp E mi (pc + 1) ls (.int (E.1 j) :: st) σ κ := by
  refine wp_tH hd rfl ?_
  simp only [ip_tH, hm, ip_inN hj (by omega), ip_clN (show j < 2147483648 by omega), and_self, ↓reduceIte]
theorem wp_slen (hd : decode (ip_mB mi) pc = .ok (.arraylength, 1)) (hm : mi = ip_law) : wp E mi pc ls (.ref 1000000 :: st) σ κ = wp E mi (pc + 1) ls (.int (nI E.2.1) :: st) σ κ := by
  refine wp_tH hd rfl ?_
  simp only [ip_tH, hm, and_self, ↓reduceIte]
theorem wp_ldc2 {c : Int64} (hd : decode (ip_mB mi) pc = .ok (.ldc2_w i, 3)) (h : ip_lc (ip_mO mi) i = some c) : wp E mi pc ls st σ κ = wp E mi (pc + 3) ls (.long c :: st) σ κ := by
  refine wp_tH hd rfl ?_
  simp only [ip_tH, h]
theorem wp_ldcw (hd : decode (ip_mB mi) pc = .ok (.ldc_w i, 3)) (h : ip_kc (ip_mO mi) i = some v) : wp E mi pc ls st σ κ = wp E mi (pc + 3) ls (.int v :: st) σ κ := by
  refine wp_tH hd rfl ?_
  simp only [ip_tH, h]
theorem wp_max (hd : decode (ip_mB mi) pc = .ok (.invokestatic i, 3)) (h : ip_prm (ip_mO mi) i = some 11) (hs : st.length ≤ 4) : wp E mi pc ls (.int y :: .int x :: st) σ κ = wp E mi (pc + 3) ls (.int (if x < y then y else x) :: st) σ κ := by
  refine wp_tH hd rfl ?_
  simp only [ip_tH, h, hs, ↓reduceIte]
theorem wp_min (hd : decode (ip_mB mi) pc = .ok (.invokestatic i, 3)) (h : ip_prm (ip_mO mi) i = some 12) (hs : st.length ≤ 4) : wp E mi pc ls (.int y :: .int x :: st) σ κ = wp E mi (pc + 3) ls (.int (if y < x then y else x) :: st) σ κ := by
  refine wp_tH hd rfl ?_
  simp only [ip_tH, h, hs, ↓reduceIte]
theorem ip_nI0 : nI 0 = (0 : Int32) := nI_0
theorem wp_copy (hd : decode (ip_mB mi) pc = .ok (.invokestatic i, 3)) (h : ip_prm (ip_mO mi) i = some 13) (hs : st.length ≤ 4) (ha : ip_tg a = some 100) (hb : ip_tg b = some 100) (h1 : n ≤ ip_ln a) (h2 : n ≤ ip_ln b) : wp E mi pc ls (.int (nI n) :: .int (nI 0) :: .ref a :: .int (nI 0) :: .ref b :: st) σ κ = wp E mi (pc + 3) ls st (ip_cp σ a b n) κ := by
  have hl := ip_ln_lt a
  have hn : ¬ nI n < 0 := nI_pos (by omega)
  refine wp_tH hd rfl ?_
  simp only [ip_tH, h, ha, hb, hs, hn, ip_nI0, ip_clN (show n < 2147483648 by omega), h1, h2, not_false_eq_true, and_self, ↓reduceIte]
theorem ip_if_s0 {t : Nat} {P : Prop} [hP : Decidable P] {ins : Instr} (hd : decode (ip_mB mi) pc = .ok (ins, 3)) {st' : List Value} (h : ip_s0 pc ins 3 ls st = some (if decide P = true then t else pc + 3, ls, st')) : wp E mi pc ls st σ κ = if P then wp E mi t ls st' σ κ else wp E mi (pc + 3) ls st' σ κ := by
  rw [wp_s0 hd h]
  by_cases hp : P
  · rw [if_pos hp]; simp [hp]
  · rw [if_neg hp]; simp [hp]
theorem wp_ireti (hd : decode (ip_mB mi) pc = .ok (.ireturn, 1)) (h : ip_mR mi = some .int) : wp E mi pc ls [.int v] σ κ = κ (some (.int v)) σ := by
  refine wp_sR hd rfl ?_
  simp only [ip_sR, h, narrow, ↓reduceIte]
theorem wp_iretz (hd : decode (ip_mB mi) pc = .ok (.ireturn, 1)) (h : ip_mR mi = some .boolean) (hv : v = 0 ∨ v = 1) : wp E mi pc ls [.int v] σ κ = κ (some (.int v)) σ := by
  refine wp_sR hd rfl ?_
  have : narrow .boolean (.int v) = .int v := by rcases hv with rfl | rfl <;> decide
  simp only [ip_sR, h, this, ↓reduceIte]
theorem wp_iretn {ty : FieldType} (hd : decode (ip_mB mi) pc = .ok (.ireturn, 1)) (h : ip_mR mi = some ty) (hv : narrow ty (.int v) = .int v) : wp E mi pc ls [.int v] σ κ = κ (some (.int v)) σ := by
  refine wp_sR hd rfl ?_
  simp only [ip_sR, h, hv, ↓reduceIte]
theorem wp_vret (hd : decode (ip_mB mi) pc = .ok (.return_, 1)) (h : ip_mR mi = none) : wp E mi pc ls [] σ κ = κ none σ := by
  refine wp_sR hd rfl ?_
  simp only [ip_sR, h]
theorem wp_aret {c : String} (hd : decode (ip_mB mi) pc = .ok (.areturn, 1)) (h : ip_mR mi = some (.object c)) : wp E mi pc ls [.ref k] σ κ = κ (some (.ref k)) σ := by
  refine wp_sR hd rfl ?_
  simp only [ip_sR, h]
theorem wp_callS {cal : Nat} {as rest ls0 : List Value} (hd : decode (ip_mB mi) pc = .ok (.invokestatic i, 3)) (hc : ip_cal (ip_mO mi) i = some (1, cal, n)) (hv : ip_mV cal < ip_mV mi) (hst : as.reverse ++ rest = st) (hn : as.length = n) (hr : rest.length ≤ 4) (he : (ip_ent1 as).length ≤ ip_mL cal) (hl : ip_ent as (ip_mL cal) = ls0) : wp E mi pc ls st σ κ = wp E cal 0 ls0 [] σ (fun r σ' => wp E mi (pc + 3) ls (r.toList ++ rest) σ' κ) := by
  subst hl
  subst hst
  have e1 : (as.reverse ++ rest).take n = as.reverse := by rw [List.take_append_of_le_length (by rw [List.length_reverse]; omega), List.take_of_length_le (by rw [List.length_reverse]; omega)]
  have e2 : (as.reverse ++ rest).drop n = rest := by rw [List.drop_append_of_le_length (by rw [List.length_reverse]; omega), List.drop_of_length_le (by rw [List.length_reverse]; omega)]; rfl
  have e3 : n ≤ (as.reverse ++ rest).length := by rw [List.length_append, List.length_reverse]; omega
  refine wp_call hd rfl ?_
  simp only [ip_call, ip_kind, hc, ↓reduceIte, e1, e2, List.reverse_reverse, e3, hr, hv, he, and_self, true_or]
theorem wp_callV {cal kind q tag : Nat} {ins : Instr} {as0 rest ls0 : List Value} (hd : decode (ip_mB mi) pc = .ok (ins, 3)) (hi : ins = .invokevirtual i ∧ kind = 0) (h0 : ip_s0 pc ins 3 ls st = none) (hc : ip_cal (ip_mO mi) i = some (kind, cal, n)) (hv : ip_mV cal < ip_mV mi) (hst : (Value.ref q :: as0).reverse ++ rest = st) (hn : as0.length = n) (hr : rest.length ≤ 4) (he : (ip_ent1 (.ref q :: as0)).length ≤ ip_mL cal) (hl : ip_ent (.ref q :: as0) (ip_mL cal) = ls0) (ht : ip_tg q = some tag) (htc : tag < 100 ∧ (vwCl[tag]?).map (fun c => c.1) = some (ip_mY cal).cls) : wp E mi pc ls st σ κ = wp E cal 0 ls0 [] σ (fun r σ' => wp E mi (pc + 3) ls (r.toList ++ rest) σ' κ) := by
  subst hl
  subst hst
  obtain ⟨rfl, rfl⟩ := hi
  have e0 : ((Value.ref q :: as0).reverse).length = n + 1 := by rw [List.length_reverse, List.length_cons]; omega
  have e1 : ((Value.ref q :: as0).reverse ++ rest).take (n + 1) = (Value.ref q :: as0).reverse := by rw [List.take_append_of_le_length (by omega), List.take_of_length_le (by omega)]
  have e2 : ((Value.ref q :: as0).reverse ++ rest).drop (n + 1) = rest := by rw [List.drop_append_of_le_length (by omega), List.drop_of_length_le (by omega)]; rfl
  have e3 : n + 1 ≤ ((Value.ref q :: as0).reverse ++ rest).length := by rw [List.length_append]; omega
  have e4 : ((Value.ref q :: as0).reverse ++ rest)[n]? = some (.ref q) := by
    rw [List.getElem?_append_left (by omega), List.reverse_cons, List.getElem?_append_right (by rw [List.length_reverse]; omega), List.length_reverse, hn, Nat.sub_self]
    rfl
  obtain ⟨c, h1, h2⟩ := ip_tg_get ht
  have e5 : ip_rcv cal q (ip_mk (fun _ _ => 0)) = true := by
    unfold ip_rcv
    rw [ip_mk_get, h1]
    show decide (c.1 < 100 ∧ (vwCl[c.1]?).map (fun c => c.1) = some (ip_mY cal).cls) = true
    rw [h2]
    exact decide_eq_true htc
  refine wp_call hd h0 ?_
  simp only [ip_call, ip_kind, hc, show ¬ (0 : Nat) = 1 by decide, ↓reduceIte, e1, e2, List.reverse_reverse, e3, e4, e5, hr, hv, he, and_self, true_or]
end WPI
section WPJ
variable {E : ip_E} {mi pc i k j a b : Nat} {ls ls' st : List Value} {σ : ip_G} {κ : Option Value → ip_G → Prop} {x v : Int32} {n : Int}
theorem wp_iconst (hd : decode (ip_mB mi) pc = .ok (.iconst n, 1)) (hv : Int32.ofInt n = v) : wp E mi pc ls st σ κ = wp E mi (pc + 1) ls (.int v :: st) σ κ := by
  subst hv; exact wp_s0 hd rfl
theorem wp_bipush (hd : decode (ip_mB mi) pc = .ok (.bipush n, 2)) (hv : (Int8.ofInt n).toInt32 = v) : wp E mi pc ls st σ κ = wp E mi (pc + 2) ls (.int v :: st) σ κ := by
  subst hv; exact wp_s0 hd rfl
theorem wp_sipush (hd : decode (ip_mB mi) pc = .ok (.sipush n, 3)) (hv : (Int16.ofInt n).toInt32 = v) : wp E mi pc ls st σ κ = wp E mi (pc + 3) ls (.int v :: st) σ κ := by
  subst hv; exact wp_s0 hd rfl
theorem wp_iinc (hd : decode (ip_mB mi) pc = .ok (.iinc i n, 3)) (hx : ls[i]? = some (.int x)) (hok : ip_okst ls i = true) (hv : Int32.ofInt n = v) (hl : ls.set i (.int (x + v)) = ls') : wp E mi pc ls st σ κ = wp E mi (pc + 3) ls' st σ κ := by
  subst hv
  subst hl
  refine wp_s0 hd ?_
  simp only [ip_s0, hx, hok, ↓reduceIte]
theorem wp_irem (hd : decode (ip_mB mi) pc = .ok (.irem, 1)) (ha : a < 2147483648) (hb : 0 < b) (hb2 : b < 2147483648) : wp E mi pc ls (.int (nI b) :: .int (nI a) :: st) σ κ = wp E mi (pc + 1) ls (.int (nI (a % b)) :: st) σ κ := by
  refine wp_s0 hd ?_
  have h0 : ¬ nI b = 0 := nI_ne0 hb hb2
  simp only [ip_s0, h0, ↓reduceIte]
  rw [pk_rem ha hb hb2]
theorem ip_toI {v : Nat} (h : v < 2147483648) : (nI v).toInt = (v : Int) := nI_toInt h
theorem wp_tab {t v : Nat} {d lo hi o : Int} {offs : Array Int} {len : Nat} (hd : decode (ip_mB mi) pc = .ok (.tableswitch d lo hi offs, len)) (hv : v < 2147483648) (h1 : ¬ (v : Int) < lo) (h2 : ¬ hi < (v : Int)) (ho : offs[((v : Int) - lo).toNat]? = some o) (ht : ip_tgt pc o = some t) : wp E mi pc ls (.int (nI v) :: st) σ κ = wp E mi t ls st σ κ := by
  refine wp_s0 hd ?_
  simp only [ip_s0, ip_toI hv, h1, h2, ho, ht, or_self, ↓reduceIte]
theorem wp_tabD {t : Nat} {d lo hi : Int} {offs : Array Int} {len : Nat} (hd : decode (ip_mB mi) pc = .ok (.tableswitch d lo hi offs, len)) (ht : ip_tgt pc d = some t) (h : x.toInt < lo ∨ hi < x.toInt) : wp E mi pc ls (.int x :: st) σ κ = wp E mi t ls st σ κ := by
  refine wp_s0 hd ?_
  simp only [ip_s0, h, ht, ↓reduceIte]
theorem wp_lkp {t v : Nat} {d : Int} {ps : Array (Int × Int)} {len : Nat} (hd : decode (ip_mB mi) pc = .ok (.lookupswitch d ps, len)) (hv : v < 2147483648) (hp : (ps.toList.zip (ps.toList.drop 1)).all (fun (a, next) => a.1 < next.1) = true) (ht : ip_tgt pc (Op.lookupswitch.offset ps.toList d (v : Int)) = some t) : wp E mi pc ls (.int (nI v) :: st) σ κ = wp E mi t ls st σ κ := by
  refine wp_s0 hd ?_
  simp only [ip_s0, ip_toI hv, hp, ht, ↓reduceIte]
end WPJ
