/-! DRAFTS (reference): what is read off them -/
def MD (σ : ip_G) (o : Nat) (D : Nat → Nat) : Prop := (∀ j, j < 16 → σ 93 (o + j) = nI (D j)) ∧ (∀ i, i < D 3 → σ 93 (o + (16 + i)) = nI (D (16 + i))) ∧ ∀ j, 22 ≤ j → j < 58 → σ 93 (o + j) = nI (D j)
theorem MD0 {σ : ip_G} {D : Nat → Nat} (h : MD σ 0 D) : (∀ j, j < 16 → σ 93 j = nI (D j)) ∧ (∀ i, i < D 3 → σ 93 (16 + i) = nI (D (16 + i))) ∧ ∀ j, 22 ≤ j → j < 58 → σ 93 j = nI (D j) := by
  simpa only [MD, Nat.zero_add] using h
theorem bt_gn (x : Int32) {i : Nat} (hi : i < 32) : x >>> (nI i &&& 31) &&& nI 1 = nI (b2n (bt x i)) := by
  rw [bt_get x hi]
  cases bt x i <;> rfl
theorem b2n_t : nI (b2n true) = nI 1 := rfl
theorem b2n_f : nI (b2n false) = nI 0 := rfl
theorem m_has (E : ip_E) (x : Int32) {k : Nat} (hk : k < 32) (σ : ip_G) (κ : Option Value → ip_G → Prop) : wp E 144 0 [.int x, .int (nI k)] [] σ κ = κ (some (.int (nI (b2n (bt x k))))) σ := by
  simp (disch := first | assumption | exact bz0 | exact bz1 | exact bzi | omega | decide +kernel) only [I_144_0, I_144_1, I_144_2, I_144_3, I_144_4, I_144_5, I_144_6, I_144_9, I_144_10, I_144_13, I_144_14, bt_gn x hk]
  cases h : bt x k with
  | true => simp (disch := first | assumption | exact bz0 | exact bz1 | exact bzi | omega | decide +kernel) only [I_144_0, I_144_1, I_144_2, I_144_3, I_144_4, I_144_5, I_144_6, I_144_9, I_144_10, I_144_13, I_144_14, b2n_t, ↓reduceIte, not_true_eq_false]
  | false => simp (disch := first | assumption | exact bz0 | exact bz1 | exact bzi | omega | decide +kernel) only [I_144_0, I_144_1, I_144_2, I_144_3, I_144_4, I_144_5, I_144_6, I_144_9, I_144_10, I_144_13, I_144_14, b2n_f, ↓reduceIte, ne01, not_false_eq_true]
theorem L_ones (E : ip_E) (x : Int32) (σ : ip_G) (κ : Option Value → ip_G → Prop) : ∀ (k i : Nat), i + k = 12 → wp E 177 4 [.int x, .int (nI (cnt (bt x) i)), .int (nI i)] [] σ κ = κ (some (.int (nI (cnt (bt x) 12)))) σ := by
  intro k
  induction k with
  | zero =>
    intro i hi
    have hi2 : i = 12 := by omega
    subst hi2
    have hc : nI 12 ≤ nI 12 := nI_le (by omega) (by omega)
    simp (disch := first | assumption | exact bz0 | exact bz1 | exact bzi | omega | decide +kernel) only [I_177_0, I_177_1, I_177_2, I_177_3, I_177_4, I_177_5, I_177_7, I_177_10, I_177_11, I_177_12, I_177_13, I_177_14, I_177_15, I_177_16, I_177_17, I_177_18, I_177_21, I_177_24, I_177_25, hc, ↓reduceIte]
  | succ k ih =>
    intro i hi
    have hc : ¬ nI 12 ≤ nI i := nI_ge (by omega) (by omega)
    rw [I_177_4]
    simp (disch := first | assumption | exact bz0 | exact bz1 | exact bzi | omega | decide +kernel) only [I_177_0, I_177_1, I_177_2, I_177_3, I_177_5, I_177_7, I_177_10, I_177_11, I_177_12, I_177_13, I_177_14, I_177_15, I_177_16, I_177_17, I_177_18, I_177_21, I_177_24, I_177_25, hc, ↓reduceIte, bt_gn x (show i < 32 by omega), nI_add]
    exact ih (i + 1) (by omega)
theorem m_ones (E : ip_E) (x : Int32) (σ : ip_G) (κ : Option Value → ip_G → Prop) : wp E 177 0 [.int x, .retAddr 0, .retAddr 0] [] σ κ = κ (some (.int (nI (cnt (bt x) 12)))) σ := by
  simp only [I_177_0, I_177_1, I_177_2, I_177_3, I_177_5, I_177_7, I_177_10, I_177_11, I_177_12, I_177_13, I_177_14, I_177_15, I_177_16, I_177_17, I_177_18, I_177_21, I_177_24, I_177_25]
  exact L_ones E x σ κ 12 0 (by omega)
theorem m_isUp (E : ip_E) {σ : ip_G} {D : Nat → Nat} (hM : MD σ 0 D) (hW : WD D) {q i : Nat} (hq : q < 12) (hi : i < 12) (κ : Option Value → ip_G → Prop) : wp E 143 0 [.ref 92, .int (nI q), .int (nI i)] [] σ κ = κ (some (.int (nI (b2n (up D q i))))) σ := by
  obtain ⟨m1, m2, m3⟩ := MD0 hM
  obtain ⟨⟨w0, w1, w2, w3, w4, w5, w6, w7⟩, w8, w9, w10, w11, w12⟩ := hW
  have b1 := w10 q hq
  have b3 := w8 i hi
  have e1 := m3 (22 + q) (by omega) (by omega)
  have e2 := m2 _ b1
  have e3 := m1 (4 + i) (by omega)
  have hb : b2n (up D q i) = 0 ∨ b2n (up D q i) = 1 := by unfold b2n; split <;> simp
  have hb2 : nI (b2n (up D q i)) = 0 ∨ nI (b2n (up D q i)) = 1 := by
    rcases hb with h | h <;> rw [h]
    · exact bz0
    · exact bz1
  simp (disch := first | assumption | exact bz0 | exact bz1 | exact bzi | omega | decide +kernel) only [I_143_0, I_143_1, I_143_4, I_143_6, I_143_7, I_143_10, I_143_12, I_143_13, I_143_14, I_143_15, I_143_16, I_143_17, I_143_18, I_143_21, I_143_22, I_143_23, I_143_24, I_143_25, rr_0_0, rr_0_1, rr_0_2, rr_0_3, rr_0_4, rr_0_5, rr_0_6, rr_0_7, rr_0_8, rr_1_0, rr_1_1, rr_1_2, rr_1_3, rr_2_4, rr_2_5, rr_2_6, rr_2_7, rr_2_8, rr_13_0, rr_15_4, rr_15_5, rr_15_6, rr_15_7, rr_15_8, rr_21_4, rr_21_5, rr_21_6, rr_21_7, rr_21_8, rr_27_4, rr_27_5, rr_27_6, rr_27_7, rr_27_8, rr_33_4, rr_33_5, rr_33_6, rr_33_7, rr_33_8, rr_39_4, rr_39_5, rr_39_6, rr_39_7, rr_39_8, rr_45_4, rr_45_5, rr_45_6, rr_45_7, rr_45_8, rr_51_4, rr_51_5, rr_51_6, rr_51_7, rr_51_8, rr_57_4, rr_57_5, rr_57_6, rr_57_7, rr_57_8, rr_63_2, rr_63_3, rr_63_4, rr_63_5, rr_68_0, rr_70_1, rr_70_2, rr_74_4, rr_74_5, rr_74_6, rr_74_7, rr_74_8, rr_80_4, rr_80_5, rr_80_6, rr_80_7, rr_80_8, rr_86_2, rr_88_2, rr_90_2, rr_92_0, rr_92_1, rr_92_5, rr_92_6, rr_92_8, rr_92_9, rr_92_12, rr_92_15, rr_92_16, rr_92_17, nI_add, e1, e2, e3, m_has E _ (show D (4 + i) < 32 by omega), bt_nI (show D (4 + i) < 32 by omega), Option.toList_some, List.cons_append, List.nil_append]
  exact I_143_28 _ _ _ _ _ _ _ hb2
theorem nb0 : nI (b2n false) = 0 := nI_0
theorem nb1 : ¬ nI (b2n true) = 0 := nz1
theorem L_upEnd (E : ip_E) {σ : ip_G} {D : Nat → Nat} (hM : MD σ 0 D) (hW : WD D) {x : Nat} (hx : x < 12) (κ : Option Value → ip_G → Prop) : ∀ (k i : Nat), i + k = D 1 → wp E 142 4 [.ref 92, .int (nI x), .int (nI (bits (fun q => up D q x) i)), .int (nI i)] [] σ κ = κ (some (.int (nI (bits (fun q => up D q x) (D 1))))) σ := by
  have e0 := (MD0 hM).1 1 (by omega)
  have w := hW.1
  intro k
  induction k with
  | zero =>
    intro i hi
    have hc : nI (D 1) ≤ nI i := nI_le (by omega) (by omega)
    have hi2 : i = D 1 := by omega
    simp (disch := first | assumption | exact bz0 | exact bz1 | exact bzi | omega | decide +kernel) only [I_142_0, I_142_1, I_142_2, I_142_3, I_142_4, I_142_5, I_142_6, I_142_9, I_142_10, I_142_11, I_142_14, I_142_15, I_142_16, I_142_17, I_142_18, I_142_21, I_142_24, I_142_25, I_142_26, I_142_27, I_142_30, I_142_31, I_142_32, I_142_33, I_142_36, I_142_39, I_142_40, rr_0_0, rr_0_1, rr_0_2, rr_0_3, rr_0_4, rr_0_5, rr_0_6, rr_0_7, rr_0_8, rr_1_0, rr_1_1, rr_1_2, rr_1_3, rr_2_4, rr_2_5, rr_2_6, rr_2_7, rr_2_8, rr_13_0, rr_15_4, rr_15_5, rr_15_6, rr_15_7, rr_15_8, rr_21_4, rr_21_5, rr_21_6, rr_21_7, rr_21_8, rr_27_4, rr_27_5, rr_27_6, rr_27_7, rr_27_8, rr_33_4, rr_33_5, rr_33_6, rr_33_7, rr_33_8, rr_39_4, rr_39_5, rr_39_6, rr_39_7, rr_39_8, rr_45_4, rr_45_5, rr_45_6, rr_45_7, rr_45_8, rr_51_4, rr_51_5, rr_51_6, rr_51_7, rr_51_8, rr_57_4, rr_57_5, rr_57_6, rr_57_7, rr_57_8, rr_63_2, rr_63_3, rr_63_4, rr_63_5, rr_68_0, rr_70_1, rr_70_2, rr_74_4, rr_74_5, rr_74_6, rr_74_7, rr_74_8, rr_80_4, rr_80_5, rr_80_6, rr_80_7, rr_80_8, rr_86_2, rr_88_2, rr_90_2, rr_92_0, rr_92_1, rr_92_5, rr_92_6, rr_92_8, rr_92_9, rr_92_12, rr_92_15, rr_92_16, rr_92_17, e0, hc, ↓reduceIte]
    rw [hi2]
  | succ k ih =>
    intro i hi
    have hc : ¬ nI (D 1) ≤ nI i := nI_ge (by omega) (by omega)
    rw [I_142_4]
    simp (disch := first | assumption | exact bz0 | exact bz1 | exact bzi | omega | decide +kernel) only [I_142_0, I_142_1, I_142_2, I_142_3, I_142_5, I_142_6, I_142_9, I_142_10, I_142_11, I_142_14, I_142_15, I_142_16, I_142_17, I_142_18, I_142_21, I_142_24, I_142_25, I_142_26, I_142_27, I_142_30, I_142_31, I_142_32, I_142_33, I_142_36, I_142_39, I_142_40, rr_0_0, rr_0_1, rr_0_2, rr_0_3, rr_0_4, rr_0_5, rr_0_6, rr_0_7, rr_0_8, rr_1_0, rr_1_1, rr_1_2, rr_1_3, rr_2_4, rr_2_5, rr_2_6, rr_2_7, rr_2_8, rr_13_0, rr_15_4, rr_15_5, rr_15_6, rr_15_7, rr_15_8, rr_21_4, rr_21_5, rr_21_6, rr_21_7, rr_21_8, rr_27_4, rr_27_5, rr_27_6, rr_27_7, rr_27_8, rr_33_4, rr_33_5, rr_33_6, rr_33_7, rr_33_8, rr_39_4, rr_39_5, rr_39_6, rr_39_7, rr_39_8, rr_45_4, rr_45_5, rr_45_6, rr_45_7, rr_45_8, rr_51_4, rr_51_5, rr_51_6, rr_51_7, rr_51_8, rr_57_4, rr_57_5, rr_57_6, rr_57_7, rr_57_8, rr_63_2, rr_63_3, rr_63_4, rr_63_5, rr_68_0, rr_70_1, rr_70_2, rr_74_4, rr_74_5, rr_74_6, rr_74_7, rr_74_8, rr_80_4, rr_80_5, rr_80_6, rr_80_7, rr_80_8, rr_86_2, rr_88_2, rr_90_2, rr_92_0, rr_92_1, rr_92_5, rr_92_6, rr_92_8, rr_92_9, rr_92_12, rr_92_15, rr_92_16, rr_92_17, e0, hc, ↓reduceIte, m_isUp E hM hW (show i < 12 by omega) hx, Option.toList_some, List.cons_append, List.nil_append]
    have e1 : bits (fun q => up D q x) (i + 1) = bits (fun q => up D q x) i ||| (if up D i x = true then 2 ^ i else 0) := rfl
    have ih1 := ih (i + 1) (by omega)
    rw [e1] at ih1
    cases hu : up D i x with
    | true =>
      rw [hu] at ih1
      simp (disch := first | assumption | exact bz0 | exact bz1 | exact bzi | omega | decide +kernel) only [I_142_0, I_142_1, I_142_2, I_142_3, I_142_5, I_142_6, I_142_9, I_142_10, I_142_11, I_142_14, I_142_15, I_142_16, I_142_17, I_142_18, I_142_21, I_142_24, I_142_25, I_142_26, I_142_27, I_142_30, I_142_31, I_142_32, I_142_33, I_142_36, I_142_39, I_142_40, ↓reduceIte, nb1, nI_shl1 (show i < 31 by omega), nx_or, nI_add]
      exact ih1
    | false =>
      rw [hu] at ih1
      simp only [Bool.false_eq_true, ↓reduceIte] at ih1
      simp (disch := first | assumption | exact bz0 | exact bz1 | exact bzi | omega | decide +kernel) only [I_142_0, I_142_1, I_142_2, I_142_3, I_142_5, I_142_6, I_142_9, I_142_10, I_142_11, I_142_14, I_142_15, I_142_16, I_142_17, I_142_18, I_142_21, I_142_24, I_142_25, I_142_26, I_142_27, I_142_30, I_142_31, I_142_32, I_142_33, I_142_36, I_142_39, I_142_40, ↓reduceIte, nb0, nI_add, nx_or]
      exact ih1
theorem m_upEnd (E : ip_E) {σ : ip_G} {D : Nat → Nat} (hM : MD σ 0 D) (hW : WD D) {x : Nat} (hx : x < 12) (κ : Option Value → ip_G → Prop) : wp E 142 0 [.ref 92, .int (nI x), .retAddr 0, .retAddr 0] [] σ κ = κ (some (.int (nI (bits (fun q => up D q x) (D 1))))) σ := by
  simp only [I_142_0, I_142_1, I_142_2, I_142_3, I_142_5, I_142_6, I_142_9, I_142_10, I_142_11, I_142_14, I_142_15, I_142_16, I_142_17, I_142_18, I_142_21, I_142_24, I_142_25, I_142_26, I_142_27, I_142_30, I_142_31, I_142_32, I_142_33, I_142_36, I_142_39, I_142_40]
  exact L_upEnd E hM hW hx κ (D 1) 0 (by omega)
theorem L_upPick (E : ip_E) {σ : ip_G} {D : Nat → Nat} (hM : MD σ 0 D) (hW : WD D) {x : Nat} (hx : x < 12) (κ : Option Value → ip_G → Prop) : ∀ (k i : Nat), i + k = D 0 → wp E 148 4 [.ref 92, .int (nI x), .int (nI (bits (up D x) i)), .int (nI i)] [] σ κ = κ (some (.int (nI (bits (up D x) (D 0))))) σ := by
  have e0 := (MD0 hM).1 0 (by omega)
  have w := hW.1
  intro k
  induction k with
  | zero =>
    intro i hi
    have hc : nI (D 0) ≤ nI i := nI_le (by omega) (by omega)
    have hi2 : i = D 0 := by omega
    simp (disch := first | assumption | exact bz0 | exact bz1 | exact bzi | omega | decide +kernel) only [I_148_0, I_148_1, I_148_2, I_148_3, I_148_4, I_148_5, I_148_6, I_148_9, I_148_10, I_148_11, I_148_14, I_148_15, I_148_16, I_148_17, I_148_18, I_148_21, I_148_24, I_148_25, I_148_26, I_148_27, I_148_30, I_148_31, I_148_32, I_148_33, I_148_36, I_148_39, I_148_40, rr_0_0, rr_0_1, rr_0_2, rr_0_3, rr_0_4, rr_0_5, rr_0_6, rr_0_7, rr_0_8, rr_1_0, rr_1_1, rr_1_2, rr_1_3, rr_2_4, rr_2_5, rr_2_6, rr_2_7, rr_2_8, rr_13_0, rr_15_4, rr_15_5, rr_15_6, rr_15_7, rr_15_8, rr_21_4, rr_21_5, rr_21_6, rr_21_7, rr_21_8, rr_27_4, rr_27_5, rr_27_6, rr_27_7, rr_27_8, rr_33_4, rr_33_5, rr_33_6, rr_33_7, rr_33_8, rr_39_4, rr_39_5, rr_39_6, rr_39_7, rr_39_8, rr_45_4, rr_45_5, rr_45_6, rr_45_7, rr_45_8, rr_51_4, rr_51_5, rr_51_6, rr_51_7, rr_51_8, rr_57_4, rr_57_5, rr_57_6, rr_57_7, rr_57_8, rr_63_2, rr_63_3, rr_63_4, rr_63_5, rr_68_0, rr_70_1, rr_70_2, rr_74_4, rr_74_5, rr_74_6, rr_74_7, rr_74_8, rr_80_4, rr_80_5, rr_80_6, rr_80_7, rr_80_8, rr_86_2, rr_88_2, rr_90_2, rr_92_0, rr_92_1, rr_92_5, rr_92_6, rr_92_8, rr_92_9, rr_92_12, rr_92_15, rr_92_16, rr_92_17, e0, hc, ↓reduceIte]
    rw [hi2]
  | succ k ih =>
    intro i hi
    have hc : ¬ nI (D 0) ≤ nI i := nI_ge (by omega) (by omega)
    rw [I_148_4]
    simp (disch := first | assumption | exact bz0 | exact bz1 | exact bzi | omega | decide +kernel) only [I_148_0, I_148_1, I_148_2, I_148_3, I_148_5, I_148_6, I_148_9, I_148_10, I_148_11, I_148_14, I_148_15, I_148_16, I_148_17, I_148_18, I_148_21, I_148_24, I_148_25, I_148_26, I_148_27, I_148_30, I_148_31, I_148_32, I_148_33, I_148_36, I_148_39, I_148_40, rr_0_0, rr_0_1, rr_0_2, rr_0_3, rr_0_4, rr_0_5, rr_0_6, rr_0_7, rr_0_8, rr_1_0, rr_1_1, rr_1_2, rr_1_3, rr_2_4, rr_2_5, rr_2_6, rr_2_7, rr_2_8, rr_13_0, rr_15_4, rr_15_5, rr_15_6, rr_15_7, rr_15_8, rr_21_4, rr_21_5, rr_21_6, rr_21_7, rr_21_8, rr_27_4, rr_27_5, rr_27_6, rr_27_7, rr_27_8, rr_33_4, rr_33_5, rr_33_6, rr_33_7, rr_33_8, rr_39_4, rr_39_5, rr_39_6, rr_39_7, rr_39_8, rr_45_4, rr_45_5, rr_45_6, rr_45_7, rr_45_8, rr_51_4, rr_51_5, rr_51_6, rr_51_7, rr_51_8, rr_57_4, rr_57_5, rr_57_6, rr_57_7, rr_57_8, rr_63_2, rr_63_3, rr_63_4, rr_63_5, rr_68_0, rr_70_1, rr_70_2, rr_74_4, rr_74_5, rr_74_6, rr_74_7, rr_74_8, rr_80_4, rr_80_5, rr_80_6, rr_80_7, rr_80_8, rr_86_2, rr_88_2, rr_90_2, rr_92_0, rr_92_1, rr_92_5, rr_92_6, rr_92_8, rr_92_9, rr_92_12, rr_92_15, rr_92_16, rr_92_17, e0, hc, ↓reduceIte, m_isUp E hM hW hx (show i < 12 by omega), Option.toList_some, List.cons_append, List.nil_append]
    have e1 : bits (up D x) (i + 1) = bits (up D x) i ||| (if up D x i = true then 2 ^ i else 0) := rfl
    have ih1 := ih (i + 1) (by omega)
    rw [e1] at ih1
    cases hu : up D x i with
    | true =>
      rw [hu] at ih1
      simp (disch := first | assumption | exact bz0 | exact bz1 | exact bzi | omega | decide +kernel) only [I_148_0, I_148_1, I_148_2, I_148_3, I_148_5, I_148_6, I_148_9, I_148_10, I_148_11, I_148_14, I_148_15, I_148_16, I_148_17, I_148_18, I_148_21, I_148_24, I_148_25, I_148_26, I_148_27, I_148_30, I_148_31, I_148_32, I_148_33, I_148_36, I_148_39, I_148_40, ↓reduceIte, nb1, nI_shl1 (show i < 31 by omega), nx_or, nI_add]
      exact ih1
    | false =>
      rw [hu] at ih1
      simp only [Bool.false_eq_true, ↓reduceIte] at ih1
      simp (disch := first | assumption | exact bz0 | exact bz1 | exact bzi | omega | decide +kernel) only [I_148_0, I_148_1, I_148_2, I_148_3, I_148_5, I_148_6, I_148_9, I_148_10, I_148_11, I_148_14, I_148_15, I_148_16, I_148_17, I_148_18, I_148_21, I_148_24, I_148_25, I_148_26, I_148_27, I_148_30, I_148_31, I_148_32, I_148_33, I_148_36, I_148_39, I_148_40, ↓reduceIte, nb0, nI_add, nx_or]
      exact ih1
theorem m_upPick (E : ip_E) {σ : ip_G} {D : Nat → Nat} (hM : MD σ 0 D) (hW : WD D) {x : Nat} (hx : x < 12) (κ : Option Value → ip_G → Prop) : wp E 148 0 [.ref 92, .int (nI x), .retAddr 0, .retAddr 0] [] σ κ = κ (some (.int (nI (bits (up D x) (D 0))))) σ := by
  simp only [I_148_0, I_148_1, I_148_2, I_148_3, I_148_5, I_148_6, I_148_9, I_148_10, I_148_11, I_148_14, I_148_15, I_148_16, I_148_17, I_148_18, I_148_21, I_148_24, I_148_25, I_148_26, I_148_27, I_148_30, I_148_31, I_148_32, I_148_33, I_148_36, I_148_39, I_148_40]
  exact L_upPick E hM hW hx κ (D 0) 0 (by omega)
theorem b2n_eq {a b : Bool} : nI (b2n a) = nI (b2n b) ↔ (a == b) = true := by cases a <;> cases b <;> decide +kernel
theorem L_run (E : ip_E) (x : Int32) (n : Nat) (hn : n ≤ 31) (b : Bool) (σ : ip_G) (κ : Option Value → ip_G → Prop) : ∀ (k i lo ru : Nat), i + k = n → lo ≤ i → ru ≤ i → wp E 145 8 [.int x, .int (nI n), .int (nI (b2n b)), .int (nI lo), .int (nI ru), .int (nI i)] [] σ κ = κ (some (.int (nI (lrF (fun i => bt x i == b) k i lo ru)))) σ := by
  intro k
  induction k with
  | zero =>
    intro i lo ru hi h1 h2
    have hc : nI n ≤ nI i := nI_le (by omega) (by omega)
    simp (disch := first | assumption | exact bz0 | exact bz1 | exact bzi | omega | decide +kernel) only [I_145_0, I_145_1, I_145_2, I_145_3, I_145_5, I_145_6, I_145_8, I_145_10, I_145_11, I_145_14, I_145_15, I_145_17, I_145_20, I_145_21, I_145_24, I_145_26, I_145_27, I_145_28, I_145_31, I_145_32, I_145_34, I_145_36, I_145_37, I_145_40, I_145_42, I_145_45, I_145_46, I_145_47, I_145_50, I_145_53, I_145_54, hc, ↓reduceIte, lrF]
  | succ k ih =>
    intro i lo ru hi h1 h2
    have hc : ¬ nI n ≤ nI i := nI_ge (by omega) (by omega)
    rw [I_145_8]
    by_cases hb : (bt x i == b) = true
    · by_cases hl : ru + 1 ≤ lo
      · have hl2 : nI (ru + 1) ≤ nI lo := nI_le hl (by omega)
        simp (disch := first | assumption | exact bz0 | exact bz1 | exact bzi | omega | decide +kernel) only [I_145_0, I_145_1, I_145_2, I_145_3, I_145_5, I_145_6, I_145_10, I_145_11, I_145_14, I_145_15, I_145_17, I_145_20, I_145_21, I_145_24, I_145_26, I_145_27, I_145_28, I_145_31, I_145_32, I_145_34, I_145_36, I_145_37, I_145_40, I_145_42, I_145_45, I_145_46, I_145_47, I_145_50, I_145_53, I_145_54, hc, ↓reduceIte, m_has E x (show i < 32 by omega), b2n_eq, hb, nI_add, hl2, not_true_eq_false, Option.toList_some, List.cons_append, List.nil_append]
        rw [ih (i + 1) _ _ (by omega) (by omega) (by omega)]
        simp only [lrF, hb, ↓reduceIte, Nat.max_eq_left hl]
      · have hl2 : ¬ nI (ru + 1) ≤ nI lo := nI_ge (by omega) (by omega)
        simp (disch := first | assumption | exact bz0 | exact bz1 | exact bzi | omega | decide +kernel) only [I_145_0, I_145_1, I_145_2, I_145_3, I_145_5, I_145_6, I_145_10, I_145_11, I_145_14, I_145_15, I_145_17, I_145_20, I_145_21, I_145_24, I_145_26, I_145_27, I_145_28, I_145_31, I_145_32, I_145_34, I_145_36, I_145_37, I_145_40, I_145_42, I_145_45, I_145_46, I_145_47, I_145_50, I_145_53, I_145_54, hc, ↓reduceIte, m_has E x (show i < 32 by omega), b2n_eq, hb, nI_add, hl2, not_true_eq_false, Option.toList_some, List.cons_append, List.nil_append]
        rw [ih (i + 1) _ _ (by omega) (by omega) (by omega)]
        simp only [lrF, hb, ↓reduceIte, Nat.max_eq_right (show lo ≤ ru + 1 by omega)]
    · have hl2 : nI 0 ≤ nI lo := nI_le (by omega) (by omega)
      simp (disch := first | assumption | exact bz0 | exact bz1 | exact bzi | omega | decide +kernel) only [I_145_0, I_145_1, I_145_2, I_145_3, I_145_5, I_145_6, I_145_10, I_145_11, I_145_14, I_145_15, I_145_17, I_145_20, I_145_21, I_145_24, I_145_26, I_145_27, I_145_28, I_145_31, I_145_32, I_145_34, I_145_36, I_145_37, I_145_40, I_145_42, I_145_45, I_145_46, I_145_47, I_145_50, I_145_53, I_145_54, hc, ↓reduceIte, m_has E x (show i < 32 by omega), b2n_eq, hb, nI_add, hl2, not_false_eq_true, Option.toList_some, List.cons_append, List.nil_append, Bool.false_eq_true]
      rw [ih (i + 1) _ _ (by omega) (by omega) (by omega)]
      simp only [lrF, hb, ↓reduceIte, Bool.false_eq_true]
theorem m_run (E : ip_E) (x : Int32) {n : Nat} (hn : n ≤ 31) (b : Bool) (σ : ip_G) (κ : Option Value → ip_G → Prop) : wp E 145 0 [.int x, .int (nI n), .int (nI (b2n b)), .retAddr 0, .retAddr 0, .retAddr 0] [] σ κ = κ (some (.int (nI (lrun (fun i => bt x i == b) n)))) σ := by
  simp only [I_145_0, I_145_1, I_145_2, I_145_3, I_145_5, I_145_6, I_145_10, I_145_11, I_145_14, I_145_15, I_145_17, I_145_20, I_145_21, I_145_24, I_145_26, I_145_27, I_145_28, I_145_31, I_145_32, I_145_34, I_145_36, I_145_37, I_145_40, I_145_42, I_145_45, I_145_46, I_145_47, I_145_50, I_145_53, I_145_54]
  exact L_run E x n hn b σ κ n 0 0 0 (by omega) (by omega) (by omega)
theorem m_runT (E : ip_E) (f : Nat → Bool) {n : Nat} (hn : n ≤ 31) (σ : ip_G) (κ : Option Value → ip_G → Prop) : wp E 145 0 [.int (nI (bits f n)), .int (nI n), .int (nI 1), .retAddr 0, .retAddr 0, .retAddr 0] [] σ κ = κ (some (.int (nI (lrun f n)))) σ := by
  have h := m_run E (nI (bits f n)) hn true σ κ
  rw [lrun_congr (g := f) (fun j hj => by rw [bt_bits hj hn]; simp)] at h
  exact h
theorem m_runF (E : ip_E) (f : Nat → Bool) {n : Nat} (hn : n ≤ 31) (σ : ip_G) (κ : Option Value → ip_G → Prop) : wp E 145 0 [.int (nI (bits f n)), .int (nI n), .int (nI 0), .retAddr 0, .retAddr 0, .retAddr 0] [] σ κ = κ (some (.int (nI (lrun (fun i => !f i) n)))) σ := by
  have h := m_run E (nI (bits f n)) hn false σ κ
  rw [lrun_congr (g := fun i => !f i) (fun j hj => by rw [bt_bits hj hn]; simp)] at h
  exact h
theorem inr_dec (x : Int32) {n : Nat} (hn : 1 ≤ n) : decide ((0 : Int) ≤ x.toInt ∧ x.toInt ≤ ((n - 1 : Nat) : Int)) = inr x n := by
  unfold inr
  congr 1
  apply propext
  omega
theorem b2n_bz (b : Bool) : nI (b2n b) = 0 ∨ nI (b2n b) = 1 := by
  cases b
  · exact bz0
  · exact bz1
theorem m_isEnd (E : ip_E) {σ : ip_G} {D : Nat → Nat} (hM : MD σ 0 D) (hW : WD D) (x : Int32) (κ : Option Value → ip_G → Prop) : wp E 141 0 [.ref 92, .int x] [] σ κ = κ (some (.int (nI (b2n (inr x (D 0)))))) σ := by
  have e0 := (MD0 hM).1 0 (by omega)
  have w := hW.1
  simp (disch := first | assumption | exact bz0 | exact bz1 | exact bzi | omega | decide +kernel) only [I_141_0, I_141_1, I_141_2, I_141_3, I_141_4, I_141_7, I_141_8, I_141_9, I_141_10, I_141_11, I_141_12, rr_0_0, rr_0_1, rr_0_2, rr_0_3, rr_0_4, rr_0_5, rr_0_6, rr_0_7, rr_0_8, rr_1_0, rr_1_1, rr_1_2, rr_1_3, rr_2_4, rr_2_5, rr_2_6, rr_2_7, rr_2_8, rr_13_0, rr_15_4, rr_15_5, rr_15_6, rr_15_7, rr_15_8, rr_21_4, rr_21_5, rr_21_6, rr_21_7, rr_21_8, rr_27_4, rr_27_5, rr_27_6, rr_27_7, rr_27_8, rr_33_4, rr_33_5, rr_33_6, rr_33_7, rr_33_8, rr_39_4, rr_39_5, rr_39_6, rr_39_7, rr_39_8, rr_45_4, rr_45_5, rr_45_6, rr_45_7, rr_45_8, rr_51_4, rr_51_5, rr_51_6, rr_51_7, rr_51_8, rr_57_4, rr_57_5, rr_57_6, rr_57_7, rr_57_8, rr_63_2, rr_63_3, rr_63_4, rr_63_5, rr_68_0, rr_70_1, rr_70_2, rr_74_4, rr_74_5, rr_74_6, rr_74_7, rr_74_8, rr_80_4, rr_80_5, rr_80_6, rr_80_7, rr_80_8, rr_86_2, rr_88_2, rr_90_2, rr_92_0, rr_92_1, rr_92_5, rr_92_6, rr_92_8, rr_92_9, rr_92_12, rr_92_15, rr_92_16, rr_92_17, e0, pk_sub (show 1 ≤ D 0 by omega), m_in, i2l_toInt, l0, nI_toInt (show D 0 - 1 < 2 ^ 31 by omega), inr_dec x (show 1 ≤ D 0 by omega), Option.toList_some, List.cons_append, List.nil_append]
  exact I_141_15 _ _ _ _ _ _ (b2n_bz _)
theorem m_isPick (E : ip_E) {σ : ip_G} {D : Nat → Nat} (hM : MD σ 0 D) (hW : WD D) (x : Int32) (κ : Option Value → ip_G → Prop) : wp E 147 0 [.ref 92, .int x] [] σ κ = κ (some (.int (nI (b2n (inr x (D 1)))))) σ := by
  have e0 := (MD0 hM).1 1 (by omega)
  have w := hW.1
  simp (disch := first | assumption | exact bz0 | exact bz1 | exact bzi | omega | decide +kernel) only [I_147_0, I_147_1, I_147_2, I_147_3, I_147_4, I_147_7, I_147_8, I_147_9, I_147_10, I_147_11, I_147_12, rr_0_0, rr_0_1, rr_0_2, rr_0_3, rr_0_4, rr_0_5, rr_0_6, rr_0_7, rr_0_8, rr_1_0, rr_1_1, rr_1_2, rr_1_3, rr_2_4, rr_2_5, rr_2_6, rr_2_7, rr_2_8, rr_13_0, rr_15_4, rr_15_5, rr_15_6, rr_15_7, rr_15_8, rr_21_4, rr_21_5, rr_21_6, rr_21_7, rr_21_8, rr_27_4, rr_27_5, rr_27_6, rr_27_7, rr_27_8, rr_33_4, rr_33_5, rr_33_6, rr_33_7, rr_33_8, rr_39_4, rr_39_5, rr_39_6, rr_39_7, rr_39_8, rr_45_4, rr_45_5, rr_45_6, rr_45_7, rr_45_8, rr_51_4, rr_51_5, rr_51_6, rr_51_7, rr_51_8, rr_57_4, rr_57_5, rr_57_6, rr_57_7, rr_57_8, rr_63_2, rr_63_3, rr_63_4, rr_63_5, rr_68_0, rr_70_1, rr_70_2, rr_74_4, rr_74_5, rr_74_6, rr_74_7, rr_74_8, rr_80_4, rr_80_5, rr_80_6, rr_80_7, rr_80_8, rr_86_2, rr_88_2, rr_90_2, rr_92_0, rr_92_1, rr_92_5, rr_92_6, rr_92_8, rr_92_9, rr_92_12, rr_92_15, rr_92_16, rr_92_17, e0, pk_sub (show 1 ≤ D 1 by omega), m_in, i2l_toInt, l0, nI_toInt (show D 1 - 1 < 2 ^ 31 by omega), inr_dec x (show 1 ≤ D 1 by omega), Option.toList_some, List.cons_append, List.nil_append]
  exact I_147_15 _ _ _ _ _ _ (b2n_bz _)
theorem m_isShaft (E : ip_E) {σ : ip_G} {D : Nat → Nat} (hM : MD σ 0 D) (hW : WD D) (x : Int32) (κ : Option Value → ip_G → Prop) : wp E 154 0 [.ref 92, .int x] [] σ κ = κ (some (.int (nI (b2n (inr x (D 2)))))) σ := by
  have e0 := (MD0 hM).1 2 (by omega)
  have w := hW.1
  simp (disch := first | assumption | exact bz0 | exact bz1 | exact bzi | omega | decide +kernel) only [I_154_0, I_154_1, I_154_2, I_154_3, I_154_4, I_154_7, I_154_8, I_154_9, I_154_10, I_154_11, I_154_12, rr_0_0, rr_0_1, rr_0_2, rr_0_3, rr_0_4, rr_0_5, rr_0_6, rr_0_7, rr_0_8, rr_1_0, rr_1_1, rr_1_2, rr_1_3, rr_2_4, rr_2_5, rr_2_6, rr_2_7, rr_2_8, rr_13_0, rr_15_4, rr_15_5, rr_15_6, rr_15_7, rr_15_8, rr_21_4, rr_21_5, rr_21_6, rr_21_7, rr_21_8, rr_27_4, rr_27_5, rr_27_6, rr_27_7, rr_27_8, rr_33_4, rr_33_5, rr_33_6, rr_33_7, rr_33_8, rr_39_4, rr_39_5, rr_39_6, rr_39_7, rr_39_8, rr_45_4, rr_45_5, rr_45_6, rr_45_7, rr_45_8, rr_51_4, rr_51_5, rr_51_6, rr_51_7, rr_51_8, rr_57_4, rr_57_5, rr_57_6, rr_57_7, rr_57_8, rr_63_2, rr_63_3, rr_63_4, rr_63_5, rr_68_0, rr_70_1, rr_70_2, rr_74_4, rr_74_5, rr_74_6, rr_74_7, rr_74_8, rr_80_4, rr_80_5, rr_80_6, rr_80_7, rr_80_8, rr_86_2, rr_88_2, rr_90_2, rr_92_0, rr_92_1, rr_92_5, rr_92_6, rr_92_8, rr_92_9, rr_92_12, rr_92_15, rr_92_16, rr_92_17, e0, pk_sub (show 1 ≤ D 2 by omega), m_in, i2l_toInt, l0, nI_toInt (show D 2 - 1 < 2 ^ 31 by omega), inr_dec x (show 1 ≤ D 2 by omega), Option.toList_some, List.cons_append, List.nil_append]
  exact I_154_15 _ _ _ _ _ _ (b2n_bz _)
theorem m_isTreadle (E : ip_E) {σ : ip_G} {D : Nat → Nat} (hM : MD σ 0 D) (hW : WD D) (x : Int32) (κ : Option Value → ip_G → Prop) : wp E 151 0 [.ref 92, .int x] [] σ κ = κ (some (.int (nI (b2n (inr x (D 3)))))) σ := by
  have e0 := (MD0 hM).1 3 (by omega)
  have w := hW.1
  simp (disch := first | assumption | exact bz0 | exact bz1 | exact bzi | omega | decide +kernel) only [I_151_0, I_151_1, I_151_2, I_151_3, I_151_4, I_151_7, I_151_8, I_151_9, I_151_10, I_151_11, I_151_12, rr_0_0, rr_0_1, rr_0_2, rr_0_3, rr_0_4, rr_0_5, rr_0_6, rr_0_7, rr_0_8, rr_1_0, rr_1_1, rr_1_2, rr_1_3, rr_2_4, rr_2_5, rr_2_6, rr_2_7, rr_2_8, rr_13_0, rr_15_4, rr_15_5, rr_15_6, rr_15_7, rr_15_8, rr_21_4, rr_21_5, rr_21_6, rr_21_7, rr_21_8, rr_27_4, rr_27_5, rr_27_6, rr_27_7, rr_27_8, rr_33_4, rr_33_5, rr_33_6, rr_33_7, rr_33_8, rr_39_4, rr_39_5, rr_39_6, rr_39_7, rr_39_8, rr_45_4, rr_45_5, rr_45_6, rr_45_7, rr_45_8, rr_51_4, rr_51_5, rr_51_6, rr_51_7, rr_51_8, rr_57_4, rr_57_5, rr_57_6, rr_57_7, rr_57_8, rr_63_2, rr_63_3, rr_63_4, rr_63_5, rr_68_0, rr_70_1, rr_70_2, rr_74_4, rr_74_5, rr_74_6, rr_74_7, rr_74_8, rr_80_4, rr_80_5, rr_80_6, rr_80_7, rr_80_8, rr_86_2, rr_88_2, rr_90_2, rr_92_0, rr_92_1, rr_92_5, rr_92_6, rr_92_8, rr_92_9, rr_92_12, rr_92_15, rr_92_16, rr_92_17, e0, pk_sub (show 1 ≤ D 3 by omega), m_in, i2l_toInt, l0, nI_toInt (show D 3 - 1 < 2 ^ 31 by omega), inr_dec x (show 1 ≤ D 3 by omega), Option.toList_some, List.cons_append, List.nil_append]
  exact I_151_15 _ _ _ _ _ _ (b2n_bz _)
