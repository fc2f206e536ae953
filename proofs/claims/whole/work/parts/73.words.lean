/-! words: the constants' letters -/
theorem ip_tg_big {q : Nat} (h : 103 ≤ q) : ip_tg q = none := by
  unfold ip_tg
  rw [List.getElem?_eq_none (by rw [show ip_shp.length = 103 from by decide +kernel]; exact h)]
  rfl
section WPS
variable {E : ip_E} {mi pc i w : Nat} {ls st : List Value} {σ : ip_G} {κ : Option Value → ip_G → Prop} {x : Int32}
theorem wp_sg9 (hd : decode (ip_mB mi) pc = .ok (.getfield 9, 3)) (hO : ip_mO mi = ip_oS) (hw : w < 8) : wp E mi pc ls (.ref (2000000 + w) :: st) σ κ = wp E mi (pc + 3) ls (.ref (3000000 + w) :: st) σ κ := by
  refine wp_sS hd rfl ?_ ?_
  · simp only [ip_tH, ip_tg_big (show 103 ≤ 2000000 + w by omega)]
    split <;> simp
  · have h1 : 2000000 ≤ 2000000 + w ∧ 2000000 + w < 2000008 ∧ ip_mO mi = ip_oS := ⟨by omega, by omega, hO⟩
    simp only [ip_sS, h1, and_self, ↓reduceIte, show 2000000 + w + 1000000 = 3000000 + w by omega]
theorem wp_sg15 (hd : decode (ip_mB mi) pc = .ok (.getfield 15, 3)) (hO : ip_mO mi = ip_oS) (hw : w < 8) : wp E mi pc ls (.ref (2000000 + w) :: st) σ κ = wp E mi (pc + 3) ls (.int 0 :: st) σ κ := by
  refine wp_sS hd rfl ?_ ?_
  · simp only [ip_tH, ip_tg_big (show 103 ≤ 2000000 + w by omega)]
    split <;> simp
  · have h1 : 2000000 ≤ 2000000 + w ∧ 2000000 + w < 2000008 ∧ ip_mO mi = ip_oS := ⟨by omega, by omega, hO⟩
    simp only [ip_sS, h1, and_self, ↓reduceIte, show ¬ (15 = 9) by decide]
theorem wp_sal (hd : decode (ip_mB mi) pc = .ok (.arraylength, 1)) (hw : w < 8) : wp E mi pc ls (.ref (3000000 + w) :: st) σ κ = wp E mi (pc + 1) ls (.int (nI (ip_sb w).length) :: st) σ κ := by
  refine wp_sS hd rfl ?_ ?_
  · have h1 : ¬ (3000000 + w = 1000000 ∧ mi = ip_law) := by omega
    simp only [ip_tH, h1, ↓reduceIte]
  · have h1 : 3000000 ≤ 3000000 + w ∧ 3000000 + w < 3000008 := ⟨by omega, by omega⟩
    simp only [ip_sS, h1, and_self, ↓reduceIte, Nat.add_sub_cancel_left]
theorem wp_sba {k : Nat} (hd : decode (ip_mB mi) pc = .ok (.baload, 1)) (hw : w < 8) (hk : k < (ip_sb w).length) (hl : (ip_sb w).length < 2147483648) : wp E mi pc ls (.int (nI k) :: .ref (3000000 + w) :: st) σ κ = wp E mi (pc + 1) ls (.int ((ip_sb w).getD k 0) :: st) σ κ := by
  refine wp_sS hd rfl ?_ ?_
  · simp only [ip_tH, ip_tg_big (show 103 ≤ 3000000 + w by omega)]
    simp
  · have h1 : 3000000 ≤ 3000000 + w ∧ 3000000 + w < 3000008 ∧ ip_in (nI k) (ip_sb w).length = true := ⟨by omega, by omega, ip_inN hk hl⟩
    simp only [ip_sS, Nat.add_sub_cancel_left, h1, and_self, ↓reduceIte, ip_clN (show k < 2147483648 by omega)]
theorem wp_sgs38 (hd : decode (ip_mB mi) pc = .ok (.getstatic 38, 3)) (hO : ip_mO mi = ip_oS) : wp E mi pc ls st σ κ = wp E mi (pc + 3) ls (.int 1 :: st) σ κ := by
  refine wp_sS hd rfl rfl ?_
  simp only [ip_sS, hO, ↓reduceIte]
theorem wp_sgsF (hd : decode (ip_mB mi) pc = .ok (.getstatic 1053, 3)) (hO : ip_mO mi = ip_oS) : wp E mi pc ls st σ κ = wp E mi (pc + 3) ls (E.2.2 :: st) σ κ := by
  refine wp_sS hd rfl rfl ?_
  simp only [ip_sS, hO, ↓reduceIte, show ¬ (1053 = 38) by decide]
theorem wp_i2c (hd : decode (ip_mB mi) pc = .ok (.i2c, 1)) : wp E mi pc ls (.int x :: st) σ κ = wp E mi (pc + 1) ls (.int (x.toUInt32 % 65536).toInt32 :: st) σ κ := wp_sS hd rfl rfl rfl
theorem wp_ldcs {j : Nat} (hd : decode (ip_mB mi) pc = .ok (.ldc i, 2)) (hO : ip_mO mi = ip_oR) (hj : ip_sk.findIdx? (fun q => q.1 == i) = some j) : wp E mi pc ls st σ κ = wp E mi (pc + 2) ls (.ref (2000000 + j) :: st) σ κ := by
  refine wp_sS hd rfl rfl ?_
  simp only [ip_sS, hO, ↓reduceIte, hj]
theorem wp_callVs {cal n : Nat} {as0 rest ls0 : List Value} (hd : decode (ip_mB mi) pc = .ok (.invokevirtual i, 3)) (hc : ip_cal (ip_mO mi) i = some (0, cal, n)) (hv : ip_mV cal < ip_mV mi) (hst : (Value.ref (2000000 + w) :: as0).reverse ++ rest = st) (hn : as0.length = n) (hr : rest.length ≤ 4) (he : (ip_ent1 (.ref (2000000 + w) :: as0)).length ≤ ip_mL cal) (hl : ip_ent (.ref (2000000 + w) :: as0) (ip_mL cal) = ls0) (hw : w < 8) (htc : (ip_mY cal).cls = "java/lang/String") : wp E mi pc ls st σ κ = wp E cal 0 ls0 [] σ (fun r σ' => wp E mi (pc + 3) ls (r.toList ++ rest) σ' κ) := by
  subst hl
  subst hst
  have e0 : ((Value.ref (2000000 + w) :: as0).reverse).length = n + 1 := by rw [List.length_reverse, List.length_cons]; omega
  have e1 : ((Value.ref (2000000 + w) :: as0).reverse ++ rest).take (n + 1) = (Value.ref (2000000 + w) :: as0).reverse := by rw [List.take_append_of_le_length (by omega), List.take_of_length_le (by omega)]
  have e2 : ((Value.ref (2000000 + w) :: as0).reverse ++ rest).drop (n + 1) = rest := by rw [List.drop_append_of_le_length (by omega), List.drop_of_length_le (by omega)]; rfl
  have e3 : n + 1 ≤ ((Value.ref (2000000 + w) :: as0).reverse ++ rest).length := by rw [List.length_append]; omega
  have e4 : ((Value.ref (2000000 + w) :: as0).reverse ++ rest)[n]? = some (.ref (2000000 + w)) := by
    rw [List.getElem?_append_left (by omega), List.reverse_cons, List.getElem?_append_right (by rw [List.length_reverse]; omega), List.length_reverse, hn, Nat.sub_self]
    rfl
  have e5 : ip_rcv cal (2000000 + w) (ip_mk (fun _ _ => 0)) = true := by
    unfold ip_rcv
    rw [ip_mk_out _ (by omega)]
    exact decide_eq_true ⟨by omega, by omega, htc⟩
  refine wp_call hd rfl ?_
  simp only [ip_call, ip_kind, hc, show ¬ (0 : Nat) = 1 by decide, ↓reduceIte, e1, e2, List.reverse_reverse, e3, e4, e5, hr, hv, he, and_self, true_or]
end WPS
def wl (w : Nat) : Nat := (ip_sb w).length
def wc (w k : Nat) : Nat := ((ip_sb w).getD k 0).toInt.toNat
theorem S_23_0 (E : ip_E) (a : Nat) (σ : ip_G) (κ : Option Value → ip_G → Prop) : wp E 23 0 [.ref a] [] σ κ = wp E 23 3 [.ref a] [.int 1] σ κ := wp_sgs38 (show decode (ip_mB 23) 0 = .ok (.getstatic 38, 3) from by decide +kernel) (by decide +kernel)
theorem S_23_7 (E : ip_E) (a w : Nat) (hw : w < 8) (σ : ip_G) (κ : Option Value → ip_G → Prop) : wp E 23 7 [.ref a] [.ref (2000000 + w)] σ κ = wp E 23 10 [.ref a] [.int 0] σ κ := wp_sg15 (show decode (ip_mB 23) 7 = .ok (.getfield 15, 3) from by decide +kernel) (by decide +kernel) hw
theorem S_25_0 (E : ip_E) (a : Nat) (σ : ip_G) (κ : Option Value → ip_G → Prop) : wp E 25 0 [.ref a] [] σ κ = wp E 25 3 [.ref a] [.int 1] σ κ := wp_sgs38 (show decode (ip_mB 25) 0 = .ok (.getstatic 38, 3) from by decide +kernel) (by decide +kernel)
theorem S_25_7 (E : ip_E) (a w : Nat) (hw : w < 8) (σ : ip_G) (κ : Option Value → ip_G → Prop) : wp E 25 7 [.ref a] [.ref (2000000 + w)] σ κ = wp E 25 10 [.ref a] [.int 0] σ κ := wp_sg15 (show decode (ip_mB 25) 7 = .ok (.getfield 15, 3) from by decide +kernel) (by decide +kernel) hw
theorem S_22_1 (E : ip_E) (a w : Nat) (hw : w < 8) (σ : ip_G) (κ : Option Value → ip_G → Prop) : wp E 22 1 [.ref a] [.ref (2000000 + w)] σ κ = wp E 22 4 [.ref a] [.ref (3000000 + w)] σ κ := wp_sg9 (show decode (ip_mB 22) 1 = .ok (.getfield 9, 3) from by decide +kernel) (by decide +kernel) hw
theorem S_22_4 (E : ip_E) (a w : Nat) (hw : w < 8) (σ : ip_G) (κ : Option Value → ip_G → Prop) : wp E 22 4 [.ref a] [.ref (3000000 + w)] σ κ = wp E 22 5 [.ref a] [.int (nI (ip_sb w).length)] σ κ := wp_sal (show decode (ip_mB 22) 4 = .ok (.arraylength, 1) from by decide +kernel) hw
theorem S_22_6 (E : ip_E) (a : Nat) (x : Int32) (w : Nat) (hw : w < 8) (σ : ip_G) (κ : Option Value → ip_G → Prop) : wp E 22 6 [.ref a] [.ref (2000000 + w), .int x] σ κ = wp E 23 0 [.ref (2000000 + w)] [] σ (fun r σ' => wp E 22 9 [.ref a] (r.toList ++ [.int x]) σ' κ) := wp_callVs (n := 0) (w := w) (as0 := []) (rest := [.int x]) (show decode (ip_mB 22) 6 = .ok (.invokevirtual 335, 3) from by decide +kernel) (by decide +kernel) (by decide +kernel) rfl rfl (by simp) (show _ ≤ _ from (by decide +kernel : 1 ≤ ip_mL 23)) rfl hw (by decide +kernel)
theorem S_24_1 (E : ip_E) (a : Nat) (b : Int32) (w : Nat) (hw : w < 8) (σ : ip_G) (κ : Option Value → ip_G → Prop) : wp E 24 1 [.ref a, .int b] [.ref (2000000 + w)] σ κ = wp E 25 0 [.ref (2000000 + w)] [] σ (fun r σ' => wp E 24 4 [.ref a, .int b] (r.toList ++ []) σ' κ) := wp_callVs (n := 0) (w := w) (as0 := []) (rest := []) (show decode (ip_mB 24) 1 = .ok (.invokevirtual 492, 3) from by decide +kernel) (by decide +kernel) (by decide +kernel) rfl rfl (by simp) (show _ ≤ _ from (by decide +kernel : 1 ≤ ip_mL 25)) rfl hw (by decide +kernel)
theorem S_24_8 (E : ip_E) (a w : Nat) (b : Int32) (hw : w < 8) (σ : ip_G) (κ : Option Value → ip_G → Prop) : wp E 24 8 [.ref a, .int b] [.ref (2000000 + w)] σ κ = wp E 24 11 [.ref a, .int b] [.ref (3000000 + w)] σ κ := wp_sg9 (show decode (ip_mB 24) 8 = .ok (.getfield 9, 3) from by decide +kernel) (by decide +kernel) hw
theorem S_26_2 (E : ip_E) (a w : Nat) (b x : Int32) (hw : w < 8) (σ : ip_G) (κ : Option Value → ip_G → Prop) : wp E 26 2 [.ref a, .int b] [.ref (3000000 + w), .int x] σ κ = wp E 26 3 [.ref a, .int b] [.int (nI (ip_sb w).length), .int x] σ κ := wp_sal (show decode (ip_mB 26) 2 = .ok (.arraylength, 1) from by decide +kernel) hw
theorem S_26_8 (E : ip_E) (a w k : Nat) (b : Int32) (hw : w < 8) (hk : k < (ip_sb w).length) (hl : (ip_sb w).length < 2147483648) (σ : ip_G) (κ : Option Value → ip_G → Prop) : wp E 26 8 [.ref a, .int b] [.int (nI k), .ref (3000000 + w)] σ κ = wp E 26 9 [.ref a, .int b] [.int ((ip_sb w).getD k 0)] σ κ := wp_sba (show decode (ip_mB 26) 8 = .ok (.baload, 1) from by decide +kernel) hw hk hl
theorem S_26_13 (E : ip_E) (a : Nat) (b x : Int32) (σ : ip_G) (κ : Option Value → ip_G → Prop) : wp E 26 13 [.ref a, .int b] [.int x] σ κ = wp E 26 14 [.ref a, .int b] [.int (x.toUInt32 % 65536).toInt32] σ κ := wp_i2c (show decode (ip_mB 26) 13 = .ok (.i2c, 1) from by decide +kernel)
theorem S_27_2 (E : ip_E) (a b x y : Int32) (σ : ip_G) (κ : Option Value → ip_G → Prop) : wp E 27 2 [.int a, .int b] [.int x, .int y] σ κ = wp E 27 5 [.int a, .int b] [E.2.2, .int x, .int y] σ κ := wp_sgsF (show decode (ip_mB 27) 2 = .ok (.getstatic 1053, 3) from by decide +kernel) (by decide +kernel)
theorem S_27_5 (E : ip_E) (hE : ip_fok2 E.2.2) (a b x y : Int32) (σ : ip_G) (κ : Option Value → ip_G → Prop) : wp E 27 5 [.int a, .int b] [E.2.2, .int x, .int y] σ κ = wp E 28 0 [.int y, .int x, E.2.2] [] σ (fun r σ' => wp E 27 8 [.int a, .int b] (r.toList ++ []) σ' κ) := wp_callS (as := [.int y, .int x, E.2.2]) (rest := []) (n := 3) (show decode (ip_mB 27) 5 = .ok (.invokestatic 1059, 3) from by decide +kernel) (by decide +kernel) (by decide +kernel) rfl rfl (by simp) (by rcases hE with h | h <;> rw [h] <;> exact (by decide +kernel : (3 : Nat) ≤ ip_mL 28)) (by rcases hE with h | h <;> rw [h] <;> rfl)
theorem S_20_13 (E : ip_E) (a b : Nat) (x : Int32) (w : Nat) (hw : w < 8) (σ : ip_G) (κ : Option Value → ip_G → Prop) : wp E 20 13 [.ref a, .ref b, .retAddr 0] [.ref (2000000 + w), .int x] σ κ = wp E 22 0 [.ref (2000000 + w)] [] σ (fun r σ' => wp E 20 16 [.ref a, .ref b, .retAddr 0] (r.toList ++ [.int x]) σ' κ) := wp_callVs (n := 0) (w := w) (as0 := []) (rest := [.int x]) (show decode (ip_mB 20) 13 = .ok (.invokevirtual 36, 3) from by decide +kernel) (by decide +kernel) (by decide +kernel) rfl rfl (by simp) (show _ ≤ _ from (by decide +kernel : 1 ≤ ip_mL 22)) rfl hw (by decide +kernel)
theorem S_20_25 (E : ip_E) (a b : Nat) (c x : Int32) (w : Nat) (hw : w < 8) (σ : ip_G) (κ : Option Value → ip_G → Prop) : wp E 20 25 [.ref a, .ref b, .int c] [.ref (2000000 + w), .int x] σ κ = wp E 22 0 [.ref (2000000 + w)] [] σ (fun r σ' => wp E 20 28 [.ref a, .ref b, .int c] (r.toList ++ [.int x]) σ' κ) := wp_callVs (n := 0) (w := w) (as0 := []) (rest := [.int x]) (show decode (ip_mB 20) 25 = .ok (.invokevirtual 36, 3) from by decide +kernel) (by decide +kernel) (by decide +kernel) rfl rfl (by simp) (show _ ≤ _ from (by decide +kernel : 1 ≤ ip_mL 22)) rfl hw (by decide +kernel)
theorem S_20_44 (E : ip_E) (a b : Nat) (c x y : Int32) (w : Nat) (hw : w < 8) (σ : ip_G) (κ : Option Value → ip_G → Prop) : wp E 20 44 [.ref a, .ref b, .int c] [.int x, .ref (2000000 + w), .int y] σ κ = wp E 24 0 [.ref (2000000 + w), .int x] [] σ (fun r σ' => wp E 20 47 [.ref a, .ref b, .int c] (r.toList ++ [.int y]) σ' κ) := wp_callVs (n := 1) (w := w) (as0 := [.int x]) (rest := [.int y]) (show decode (ip_mB 20) 44 = .ok (.invokevirtual 40, 3) from by decide +kernel) (by decide +kernel) (by decide +kernel) rfl rfl (by simp) (show _ ≤ _ from (by decide +kernel : 2 ≤ ip_mL 24)) rfl hw (by decide +kernel)
theorem S_19_44 (E : ip_E) (a : Int32) (σ : ip_G) (κ : Option Value → ip_G → Prop) : wp E 19 44 [.int a] [] σ κ = wp E 19 46 [.int a] [.ref (2000000 + 0)] σ κ := wp_ldcs (show decode (ip_mB 19) 44 = .ok (.ldc 99, 2) from by decide +kernel) (by decide +kernel) (by decide +kernel)
theorem S_19_47 (E : ip_E) (a : Int32) (σ : ip_G) (κ : Option Value → ip_G → Prop) : wp E 19 47 [.int a] [] σ κ = wp E 19 49 [.int a] [.ref (2000000 + 1)] σ κ := wp_ldcs (show decode (ip_mB 19) 47 = .ok (.ldc 101, 2) from by decide +kernel) (by decide +kernel) (by decide +kernel)
theorem S_19_50 (E : ip_E) (a : Int32) (σ : ip_G) (κ : Option Value → ip_G → Prop) : wp E 19 50 [.int a] [] σ κ = wp E 19 52 [.int a] [.ref (2000000 + 2)] σ κ := wp_ldcs (show decode (ip_mB 19) 50 = .ok (.ldc 103, 2) from by decide +kernel) (by decide +kernel) (by decide +kernel)
theorem S_19_53 (E : ip_E) (a : Int32) (σ : ip_G) (κ : Option Value → ip_G → Prop) : wp E 19 53 [.int a] [] σ κ = wp E 19 55 [.int a] [.ref (2000000 + 3)] σ κ := wp_ldcs (show decode (ip_mB 19) 53 = .ok (.ldc 105, 2) from by decide +kernel) (by decide +kernel) (by decide +kernel)
theorem S_19_56 (E : ip_E) (a : Int32) (σ : ip_G) (κ : Option Value → ip_G → Prop) : wp E 19 56 [.int a] [] σ κ = wp E 19 58 [.int a] [.ref (2000000 + 4)] σ κ := wp_ldcs (show decode (ip_mB 19) 56 = .ok (.ldc 107, 2) from by decide +kernel) (by decide +kernel) (by decide +kernel)
theorem S_19_59 (E : ip_E) (a : Int32) (σ : ip_G) (κ : Option Value → ip_G → Prop) : wp E 19 59 [.int a] [] σ κ = wp E 19 61 [.int a] [.ref (2000000 + 5)] σ κ := wp_ldcs (show decode (ip_mB 19) 59 = .ok (.ldc 109, 2) from by decide +kernel) (by decide +kernel) (by decide +kernel)
theorem S_19_62 (E : ip_E) (a : Int32) (σ : ip_G) (κ : Option Value → ip_G → Prop) : wp E 19 62 [.int a] [] σ κ = wp E 19 64 [.int a] [.ref (2000000 + 6)] σ κ := wp_ldcs (show decode (ip_mB 19) 62 = .ok (.ldc 111, 2) from by decide +kernel) (by decide +kernel) (by decide +kernel)
theorem S_19_65 (E : ip_E) (a : Int32) (σ : ip_G) (κ : Option Value → ip_G → Prop) : wp E 19 65 [.int a] [] σ κ = wp E 19 67 [.int a] [.ref (2000000 + 7)] σ κ := wp_ldcs (show decode (ip_mB 19) 65 = .ok (.ldc 113, 2) from by decide +kernel) (by decide +kernel) (by decide +kernel)
theorem c_coder (E : ip_E) {w : Nat} (hw : w < 8) (σ : ip_G) (κ : Option Value → ip_G → Prop) : wp E 23 0 [.ref (2000000 + w)] [] σ κ = κ (some (.int 0)) σ := by
  simp (disch := first | assumption | exact bz0 | exact bz1 | exact bzi | omega | decide +kernel) only [I_23_3, I_23_6, I_23_10, I_23_13, I_23_14, S_23_0, S_23_7, show ¬ (1 : Int32) = 0 by decide, ↓reduceIte]
theorem c_latin (E : ip_E) {w : Nat} (hw : w < 8) (σ : ip_G) (κ : Option Value → ip_G → Prop) : wp E 25 0 [.ref (2000000 + w)] [] σ κ = κ (some (.int (nI 1))) σ := by
  simp (disch := first | assumption | exact bz0 | exact bz1 | exact bzi | omega | decide +kernel) only [I_25_3, I_25_6, I_25_10, I_25_13, I_25_14, I_25_17, I_25_18, S_25_0, S_25_7, show ¬ (1 : Int32) = 0 by decide, not_true_eq_false, ↓reduceIte]
theorem wl_sh : ∀ w, w < 8 → nI (ip_sb w).length >>> ((0 : Int32) &&& 31) = nI (wl w) := by decide +kernel
theorem c_len (E : ip_E) {w : Nat} (hw : w < 8) (σ : ip_G) (κ : Option Value → ip_G → Prop) : wp E 22 0 [.ref (2000000 + w)] [] σ κ = κ (some (.int (nI (wl w)))) σ := by
  simp (disch := first | assumption | exact bz0 | exact bz1 | exact bzi | omega | decide +kernel) only [I_22_0, I_22_5, I_22_9, I_22_10, S_22_1, S_22_4, S_22_6, c_coder E hw, Option.toList_some, List.cons_append, List.nil_append, wl_sh w hw]
theorem ck_gen (E : ip_E) {k n : Nat} (hk : k < n) (hn : n < 2147483648) (v : Value) (σ : ip_G) (κ : Option Value → ip_G → Prop) : wp E 28 0 [.int (nI k), .int (nI n), v] [] σ κ = κ (some (.int (nI k))) σ := by
  have a1 : ¬ nI k < 0 := nI_pos (by omega)
  have a2 : nI k < nI n := nI_lt hk hn
  rw [wp_s0 (show decode (ip_mB 28) 0 = .ok (.iload_n 0, 1) from by decide +kernel) (pc' := 1) (ls' := [.int (nI k), .int (nI n), v]) (st' := [.int (nI k)]) rfl]
  rw [ip_if_s0 (P := nI k < 0) (t := 9) (st' := []) (show decode (ip_mB 28) 1 = .ok (.ifCond .lt 8, 3) from by decide +kernel) rfl, if_neg a1]
  rw [wp_s0 (show decode (ip_mB 28) 4 = .ok (.iload_n 0, 1) from by decide +kernel) (pc' := 5) (ls' := [.int (nI k), .int (nI n), v]) (st' := [.int (nI k)]) rfl]
  rw [wp_s0 (show decode (ip_mB 28) 5 = .ok (.iload_n 1, 1) from by decide +kernel) (pc' := 6) (ls' := [.int (nI k), .int (nI n), v]) (st' := [.int (nI n), .int (nI k)]) rfl]
  rw [ip_if_s0 (P := nI k < nI n) (t := 16) (st' := []) (show decode (ip_mB 28) 6 = .ok (.if_icmp .lt 10, 3) from by decide +kernel) rfl, if_pos a2]
  rw [wp_s0 (show decode (ip_mB 28) 16 = .ok (.iload_n 0, 1) from by decide +kernel) (pc' := 17) (ls' := [.int (nI k), .int (nI n), v]) (st' := [.int (nI k)]) rfl]
  exact wp_ireti (show decode (ip_mB 28) 17 = .ok (.ireturn, 1) from by decide +kernel) (by decide +kernel)
theorem c_check (E : ip_E) (hE : ip_fok2 E.2.2) {k n : Nat} (hk : k < n) (hn : n < 2147483648) (σ : ip_G) (κ : Option Value → ip_G → Prop) : wp E 27 0 [.int (nI k), .int (nI n)] [] σ κ = κ none σ := by
  simp (disch := first | assumption | exact bz0 | exact bz1 | exact bzi | omega | decide +kernel) only [I_27_0, I_27_1, I_27_8, I_27_9, S_27_2, S_27_5 E hE, ck_gen E hk hn, Option.toList_some, List.cons_append, List.nil_append]
theorem wc_ch : ∀ w, w < 8 → ∀ k, k < wl w → (((ip_sb w).getD k 0 &&& nI 255).toUInt32 % 65536).toInt32 = nI (wc w k) ∧ narrow .char (.int (nI (wc w k))) = .int (nI (wc w k)) ∧ 97 ≤ wc w k ∧ wc w k ≤ 122 := by decide +kernel
theorem wl_le : ∀ w, w < 8 → 1 ≤ wl w ∧ wl w ≤ 5 := by decide +kernel
theorem c_charAt (E : ip_E) (hE : ip_fok2 E.2.2) {w k : Nat} (hw : w < 8) (hk : k < wl w) (σ : ip_G) (κ : Option Value → ip_G → Prop) : wp E 24 0 [.ref (2000000 + w), .int (nI k)] [] σ κ = κ (some (.int (nI (wc w k)))) σ := by
  obtain ⟨c1, c2, c3⟩ := wc_ch w hw k hk
  have hl := (wl_le w hw).2
  unfold wl at hl hk
  simp (disch := first | assumption | exact bz0 | exact bz1 | exact bzi | omega | decide +kernel) only [I_24_0, I_24_4, I_24_7, I_24_11, I_24_12, I_24_15, I_24_16, I_24_20, I_26_0, I_26_1, I_26_3, I_26_6, I_26_7, I_26_9, I_26_12, I_26_14, S_24_1, S_24_8, S_26_2, S_26_8, S_26_13, c_latin E hw, c_check E hE hk (show (ip_sb w).length < 2147483648 by omega), Option.toList_some, List.cons_append, List.nil_append, Option.toList_none, nz1, ↓reduceIte, c1]
