/-! CLOTH (class): stitches, counts, floats, repeats -/
def us (x : Int32) (k : Nat) : Int32 := (x.toUInt32 >>> ((nI k).toUInt32 &&& Int32.toUInt32 31)).toInt32
def bc1 (x : Int32) : Int32 := x - (us x 1 &&& 1431655765)
def bc2 (x : Int32) : Int32 := (x &&& 858993459) + (us x 2 &&& 858993459)
def bc3 (x : Int32) : Int32 := (x + us x 4) &&& 252645135
def bc4 (x : Int32) : Int32 := x + us x 8
def bc5 (x : Int32) : Int32 := x + us x 16
def bcI (x : Int32) : Int32 := bc5 (bc4 (bc3 (bc2 (bc1 x)))) &&& nI 63
theorem c_bc (E : ip_E) (x : Int32) (σ : ip_G) (κ : Option Value → ip_G → Prop) : wp E 58 0 [.int x] [] σ κ = κ (some (.int (bcI x))) σ := by
  simp only [I_58_0, I_58_1, I_58_2, I_58_3, I_58_4, I_58_7, I_58_8, I_58_9, I_58_10, I_58_11, I_58_14, I_58_15, I_58_16, I_58_17, I_58_18, I_58_21, I_58_22, I_58_23, I_58_24, I_58_25, I_58_26, I_58_27, I_58_28, I_58_29, I_58_32, I_58_33, I_58_34, I_58_35, I_58_36, I_58_38, I_58_39, I_58_40, I_58_41, I_58_42, I_58_43, I_58_45, I_58_46, I_58_47, I_58_48, I_58_49, I_58_51, I_58_52]
  rfl
set_option maxRecDepth 100000 in
theorem bc_all : ∀ a, a < 16 → ∀ b, b < 256 → bcI (nI (256 * a + b)) = nI (cnt (fun i => (256 * a + b).testBit i) 12) := by decide +kernel
theorem bc_nI {m : Nat} (h : m < 4096) : bcI (nI m) = nI (cnt (fun i => m.testBit i) 12) := by
  have e : m = 256 * (m / 256) + m % 256 := by omega
  have := bc_all (m / 256) (by omega) (m % 256) (by omega)
  rw [← e] at this
  exact this
theorem sm_ext {g : Nat → Nat} {n : Nat} : ∀ N, n ≤ N → (∀ i, n ≤ i → i < N → g i = 0) → sm g N = sm g n
  | 0, h, _ => by have : n = 0 := by omega
                  rw [this]
  | N + 1, h, hz => by
    by_cases e : n = N + 1
    · rw [e]
    · show sm g N + g N = sm g n
      rw [hz N (by omega) (by omega), sm_ext N (by omega) (fun i h1 h2 => hz i h1 (by omega)), Nat.add_zero]
theorem cnt_bits {f : Nat → Bool} {n : Nat} (hn : n ≤ 12) : cnt (fun i => (bits f n).testBit i) 12 = cnt f n := by
  unfold cnt
  rw [sm_ext (n := n) 12 hn (fun i h1 h2 => by simp [bits_test, Nat.not_lt.mpr h1, b2n])]
  exact sm_congr n (fun i hi => by simp [bits_test, hi])
theorem bits_4096 (f : Nat → Bool) {n : Nat} (hn : n ≤ 12) : bits f n < 4096 := Nat.lt_of_lt_of_le (bits_lt f n) (Nat.le_trans (Nat.pow_le_pow_right (by decide) hn) (by decide))
theorem bc_bits {f : Nat → Bool} {n : Nat} (hn : n ≤ 12) : bcI (nI (bits f n)) = nI (cnt f n) := by rw [bc_nI (bits_4096 f hn), cnt_bits hn]
theorem low_nI : ∀ e, e < 13 → nI 1 <<< (nI e &&& 31) - nI 1 = nI (2 ^ e - 1) := by decide +kernel
theorem low_bt : ∀ e, e < 13 → ∀ i, i < 32 → bt (nI (2 ^ e - 1)) i = decide (i < e) := by decide +kernel
theorem m1366 : ∀ i, i < 12 → bt (-1366) i = decide (i % 2 = 1) := by decide +kernel
theorem p1365 : ∀ i, i < 12 → bt (nI 1365) i = decide (i % 2 = 0) := by decide +kernel
/-- a crossing that locks -/
def sti (D : Nat → Nat) (q i : Nat) : Bool := if q % 2 = 0 then decide (i % 2 = 1) && up D q i else decide (i % 2 = 0) && !up D q i
def stN (D : Nat → Nat) (q : Nat) : Nat := cnt (sti D q) (D 0)
theorem st_up {f : Nat → Bool} {e : Nat} (he : e ≤ 12) : nI (bits f e) &&& (-1366) &&& nI (2 ^ e - 1) = nI (bits (fun i => decide (i % 2 = 1) && f i) e) := by
  apply b_ext
  intro i hi
  rw [b_and, b_and, low_bt e (by omega) i hi, bt_nI hi, bt_nI hi, bits_test, bits_test]
  by_cases h : i < e
  · rw [m1366 i (by omega)]
    simp only [h, decide_true, Bool.true_and, Bool.and_true]
    cases f i <;> simp
  · simp [h]
theorem st_dn {f : Nat → Bool} {e : Nat} (he : e ≤ 12) : (nI (bits f e) ^^^ (-1)) &&& nI 1365 &&& nI (2 ^ e - 1) = nI (bits (fun i => decide (i % 2 = 0) && !f i) e) := by
  apply b_ext
  intro i hi
  rw [b_and, b_and, low_bt e (by omega) i hi, bt_not _ hi, bt_nI (m := bits f e) hi, bt_nI (m := bits (fun i => decide (i % 2 = 0) && !f i) e) hi, bits_test, bits_test]
  by_cases h : i < e
  · rw [p1365 i (by omega)]
    simp only [h, decide_true, Bool.true_and, Bool.and_true]
    cases f i <;> simp
  · simp [h]
theorem c_stitches (E : ip_E) {σ : ip_G} {D : Nat → Nat} (hC : CD σ 2 D) (hW : WD D) {q : Nat} (hq : q < 12) (κ : Option Value → ip_G → Prop) : wp E 56 0 [.ref 1, .int (nI q), .retAddr 0, .retAddr 0, .retAddr 0] [] σ κ = κ (some (.int (nI (stN D q)))) σ := by
  have w := hW.1
  have e1 := hC.1 0 (by omega)
  by_cases h : q % 2 = 0
  · have hs : stN D q = cnt (fun i => decide (i % 2 = 1) && up D q i) (D 0) := cnt_congr _ (fun i _ => by simp [sti, h])
    simp (disch := first | assumption | exact bz0 | exact bz1 | exact bzi | omega | decide +kernel) only [I_56_0, I_56_1, I_56_4, I_56_5, I_56_8, I_56_9, I_56_10, I_56_11, I_56_12, I_56_15, I_56_16, I_56_19, I_56_20, I_56_21, I_56_22, I_56_25, I_56_26, I_56_29, I_56_30, I_56_33, I_56_34, I_56_35, I_56_36, I_56_39, I_56_40, I_56_42, I_56_44, I_56_45, I_56_48, I_56_51, I_56_54, I_56_55, I_56_58, rr_0_0, rr_0_1, rr_0_2, rr_0_3, rr_0_4, rr_0_5, rr_0_6, rr_0_7, rr_0_8, rr_1_0, rr_1_1, rr_1_2, rr_1_3, rr_2_4, rr_2_5, rr_2_6, rr_2_7, rr_2_8, rr_13_0, rr_15_4, rr_15_5, rr_15_6, rr_15_7, rr_15_8, rr_21_4, rr_21_5, rr_21_6, rr_21_7, rr_21_8, rr_27_4, rr_27_5, rr_27_6, rr_27_7, rr_27_8, rr_33_4, rr_33_5, rr_33_6, rr_33_7, rr_33_8, rr_39_4, rr_39_5, rr_39_6, rr_39_7, rr_39_8, rr_45_4, rr_45_5, rr_45_6, rr_45_7, rr_45_8, rr_51_4, rr_51_5, rr_51_6, rr_51_7, rr_51_8, rr_57_4, rr_57_5, rr_57_6, rr_57_7, rr_57_8, rr_63_2, rr_63_3, rr_63_4, rr_63_5, rr_68_0, rr_70_1, rr_70_2, rr_74_4, rr_74_5, rr_74_6, rr_74_7, rr_74_8, rr_80_4, rr_80_5, rr_80_6, rr_80_7, rr_80_8, rr_86_2, rr_88_2, rr_90_2, rr_92_0, rr_92_1, rr_92_5, rr_92_6, rr_92_8, rr_92_9, rr_92_12, rr_92_15, rr_92_16, rr_92_17, c_endsUp E (Or.inl rfl) hC hW hq, e1, h, ip_nI0, not_true_eq_false, show ¬ nI 1 = 0 from by decide +kernel, ↓reduceIte, Option.toList_some, List.cons_append, List.nil_append, c_lowest, low_nI (D 0) (by omega), st_up (show D 0 ≤ 12 by omega), c_bc, bc_bits (show D 0 ≤ 12 by omega)]
    rw [hs]
  · have h1 : q % 2 = 1 := by omega
    have hs : stN D q = cnt (fun i => decide (i % 2 = 0) && !up D q i) (D 0) := cnt_congr _ (fun i _ => by simp [sti, h])
    simp (disch := first | assumption | exact bz0 | exact bz1 | exact bzi | omega | decide +kernel) only [I_56_0, I_56_1, I_56_4, I_56_5, I_56_8, I_56_9, I_56_10, I_56_11, I_56_12, I_56_15, I_56_16, I_56_19, I_56_20, I_56_21, I_56_22, I_56_25, I_56_26, I_56_29, I_56_30, I_56_33, I_56_34, I_56_35, I_56_36, I_56_39, I_56_40, I_56_42, I_56_44, I_56_45, I_56_48, I_56_51, I_56_54, I_56_55, I_56_58, rr_0_0, rr_0_1, rr_0_2, rr_0_3, rr_0_4, rr_0_5, rr_0_6, rr_0_7, rr_0_8, rr_1_0, rr_1_1, rr_1_2, rr_1_3, rr_2_4, rr_2_5, rr_2_6, rr_2_7, rr_2_8, rr_13_0, rr_15_4, rr_15_5, rr_15_6, rr_15_7, rr_15_8, rr_21_4, rr_21_5, rr_21_6, rr_21_7, rr_21_8, rr_27_4, rr_27_5, rr_27_6, rr_27_7, rr_27_8, rr_33_4, rr_33_5, rr_33_6, rr_33_7, rr_33_8, rr_39_4, rr_39_5, rr_39_6, rr_39_7, rr_39_8, rr_45_4, rr_45_5, rr_45_6, rr_45_7, rr_45_8, rr_51_4, rr_51_5, rr_51_6, rr_51_7, rr_51_8, rr_57_4, rr_57_5, rr_57_6, rr_57_7, rr_57_8, rr_63_2, rr_63_3, rr_63_4, rr_63_5, rr_68_0, rr_70_1, rr_70_2, rr_74_4, rr_74_5, rr_74_6, rr_74_7, rr_74_8, rr_80_4, rr_80_5, rr_80_6, rr_80_7, rr_80_8, rr_86_2, rr_88_2, rr_90_2, rr_92_0, rr_92_1, rr_92_5, rr_92_6, rr_92_8, rr_92_9, rr_92_12, rr_92_15, rr_92_16, rr_92_17, c_endsUp E (Or.inl rfl) hC hW hq, e1, h1, ip_nI0, not_false_eq_true, show ¬ nI 1 = 0 from by decide +kernel, ↓reduceIte, Option.toList_some, List.cons_append, List.nil_append, c_lowest, low_nI (D 0) (by omega), st_dn (show D 0 ≤ 12 by omega), c_bc, bc_bits (show D 0 ≤ 12 by omega)]
    rw [hs]
theorem stN_le (D : Nat → Nat) (q : Nat) : stN D q ≤ D 0 := cnt_le _ _
theorem L_allStitches (E : ip_E) {σ : ip_G} {D : Nat → Nat} (hC : CD σ 2 D) (hW : WD D) (κ : Option Value → ip_G → Prop) : ∀ (k i : Nat), i + k = D 1 → wp E 116 4 [.ref 1, .int (nI (sm (stN D) i)), .int (nI i)] [] σ κ = κ (some (.int (nI (sm (stN D) (D 1))))) σ := by
  have e0 := hC.1 1 (by omega)
  have w := hW.1
  intro k
  induction k with
  | zero =>
    intro i hi
    have hc : nI (D 1) ≤ nI i := nI_le (by omega) (by omega)
    have hi2 : i = D 1 := by omega
    simp (disch := first | assumption | exact bz0 | exact bz1 | exact bzi | omega | decide +kernel) only [I_116_0, I_116_1, I_116_2, I_116_3, I_116_4, I_116_5, I_116_6, I_116_9, I_116_12, I_116_15, I_116_16, I_116_17, I_116_18, I_116_21, I_116_22, I_116_23, I_116_26, I_116_29, I_116_30, rr_0_0, rr_0_1, rr_0_2, rr_0_3, rr_0_4, rr_0_5, rr_0_6, rr_0_7, rr_0_8, rr_1_0, rr_1_1, rr_1_2, rr_1_3, rr_2_4, rr_2_5, rr_2_6, rr_2_7, rr_2_8, rr_13_0, rr_15_4, rr_15_5, rr_15_6, rr_15_7, rr_15_8, rr_21_4, rr_21_5, rr_21_6, rr_21_7, rr_21_8, rr_27_4, rr_27_5, rr_27_6, rr_27_7, rr_27_8, rr_33_4, rr_33_5, rr_33_6, rr_33_7, rr_33_8, rr_39_4, rr_39_5, rr_39_6, rr_39_7, rr_39_8, rr_45_4, rr_45_5, rr_45_6, rr_45_7, rr_45_8, rr_51_4, rr_51_5, rr_51_6, rr_51_7, rr_51_8, rr_57_4, rr_57_5, rr_57_6, rr_57_7, rr_57_8, rr_63_2, rr_63_3, rr_63_4, rr_63_5, rr_68_0, rr_70_1, rr_70_2, rr_74_4, rr_74_5, rr_74_6, rr_74_7, rr_74_8, rr_80_4, rr_80_5, rr_80_6, rr_80_7, rr_80_8, rr_86_2, rr_88_2, rr_90_2, rr_92_0, rr_92_1, rr_92_5, rr_92_6, rr_92_8, rr_92_9, rr_92_12, rr_92_15, rr_92_16, rr_92_17, e0, hc, ↓reduceIte]
    rw [hi2]
  | succ k ih =>
    intro i hi
    have hc : ¬ nI (D 1) ≤ nI i := nI_ge (by omega) (by omega)
    rw [I_116_4]
    simp (disch := first | assumption | exact bz0 | exact bz1 | exact bzi | omega | decide +kernel) only [I_116_0, I_116_1, I_116_2, I_116_3, I_116_5, I_116_6, I_116_9, I_116_12, I_116_15, I_116_16, I_116_17, I_116_18, I_116_21, I_116_22, I_116_23, I_116_26, I_116_29, I_116_30, rr_0_0, rr_0_1, rr_0_2, rr_0_3, rr_0_4, rr_0_5, rr_0_6, rr_0_7, rr_0_8, rr_1_0, rr_1_1, rr_1_2, rr_1_3, rr_2_4, rr_2_5, rr_2_6, rr_2_7, rr_2_8, rr_13_0, rr_15_4, rr_15_5, rr_15_6, rr_15_7, rr_15_8, rr_21_4, rr_21_5, rr_21_6, rr_21_7, rr_21_8, rr_27_4, rr_27_5, rr_27_6, rr_27_7, rr_27_8, rr_33_4, rr_33_5, rr_33_6, rr_33_7, rr_33_8, rr_39_4, rr_39_5, rr_39_6, rr_39_7, rr_39_8, rr_45_4, rr_45_5, rr_45_6, rr_45_7, rr_45_8, rr_51_4, rr_51_5, rr_51_6, rr_51_7, rr_51_8, rr_57_4, rr_57_5, rr_57_6, rr_57_7, rr_57_8, rr_63_2, rr_63_3, rr_63_4, rr_63_5, rr_68_0, rr_70_1, rr_70_2, rr_74_4, rr_74_5, rr_74_6, rr_74_7, rr_74_8, rr_80_4, rr_80_5, rr_80_6, rr_80_7, rr_80_8, rr_86_2, rr_88_2, rr_90_2, rr_92_0, rr_92_1, rr_92_5, rr_92_6, rr_92_8, rr_92_9, rr_92_12, rr_92_15, rr_92_16, rr_92_17, e0, hc, ↓reduceIte, c_stitches E hC hW (show i < 12 by omega), Option.toList_some, List.cons_append, List.nil_append, nI_add]
    exact ih (i + 1) (by omega)
theorem c_allStitches (E : ip_E) {σ : ip_G} {D : Nat → Nat} (hC : CD σ 2 D) (hW : WD D) (κ : Option Value → ip_G → Prop) : wp E 116 0 [.ref 1, .retAddr 0, .retAddr 0] [] σ κ = κ (some (.int (nI (sm (stN D) (D 1))))) σ := by
  simp only [I_116_0, I_116_1, I_116_2, I_116_3, I_116_5, I_116_6, I_116_9, I_116_12, I_116_15, I_116_16, I_116_17, I_116_18, I_116_21, I_116_22, I_116_23, I_116_26, I_116_29, I_116_30]
  exact L_allStitches E hC hW κ (D 1) 0 (by omega)
def crN (D : Nat → Nat) (q : Nat) : Nat := cnt (up D q) (D 0)
theorem L_crossingsUp (E : ip_E) {σ : ip_G} {D : Nat → Nat} (hC : CD σ 2 D) (hW : WD D) (κ : Option Value → ip_G → Prop) : ∀ (k i : Nat), i + k = D 1 → wp E 120 4 [.ref 1, .int (nI (sm (crN D) i)), .int (nI i)] [] σ κ = κ (some (.int (nI (sm (crN D) (D 1))))) σ := by
  have e0 := hC.1 1 (by omega)
  have w := hW.1
  intro k
  induction k with
  | zero =>
    intro i hi
    have hc : nI (D 1) ≤ nI i := nI_le (by omega) (by omega)
    have hi2 : i = D 1 := by omega
    simp (disch := first | assumption | exact bz0 | exact bz1 | exact bzi | omega | decide +kernel) only [I_120_0, I_120_1, I_120_2, I_120_3, I_120_4, I_120_5, I_120_6, I_120_9, I_120_12, I_120_15, I_120_16, I_120_17, I_120_20, I_120_21, I_120_24, I_120_27, I_120_28, I_120_29, I_120_32, I_120_35, I_120_36, rr_0_0, rr_0_1, rr_0_2, rr_0_3, rr_0_4, rr_0_5, rr_0_6, rr_0_7, rr_0_8, rr_1_0, rr_1_1, rr_1_2, rr_1_3, rr_2_4, rr_2_5, rr_2_6, rr_2_7, rr_2_8, rr_13_0, rr_15_4, rr_15_5, rr_15_6, rr_15_7, rr_15_8, rr_21_4, rr_21_5, rr_21_6, rr_21_7, rr_21_8, rr_27_4, rr_27_5, rr_27_6, rr_27_7, rr_27_8, rr_33_4, rr_33_5, rr_33_6, rr_33_7, rr_33_8, rr_39_4, rr_39_5, rr_39_6, rr_39_7, rr_39_8, rr_45_4, rr_45_5, rr_45_6, rr_45_7, rr_45_8, rr_51_4, rr_51_5, rr_51_6, rr_51_7, rr_51_8, rr_57_4, rr_57_5, rr_57_6, rr_57_7, rr_57_8, rr_63_2, rr_63_3, rr_63_4, rr_63_5, rr_68_0, rr_70_1, rr_70_2, rr_74_4, rr_74_5, rr_74_6, rr_74_7, rr_74_8, rr_80_4, rr_80_5, rr_80_6, rr_80_7, rr_80_8, rr_86_2, rr_88_2, rr_90_2, rr_92_0, rr_92_1, rr_92_5, rr_92_6, rr_92_8, rr_92_9, rr_92_12, rr_92_15, rr_92_16, rr_92_17, e0, hc, ↓reduceIte]
    rw [hi2]
  | succ k ih =>
    intro i hi
    have hc : ¬ nI (D 1) ≤ nI i := nI_ge (by omega) (by omega)
    rw [I_120_4]
    simp (disch := first | assumption | exact bz0 | exact bz1 | exact bzi | omega | decide +kernel) only [I_120_0, I_120_1, I_120_2, I_120_3, I_120_5, I_120_6, I_120_9, I_120_12, I_120_15, I_120_16, I_120_17, I_120_20, I_120_21, I_120_24, I_120_27, I_120_28, I_120_29, I_120_32, I_120_35, I_120_36, rr_0_0, rr_0_1, rr_0_2, rr_0_3, rr_0_4, rr_0_5, rr_0_6, rr_0_7, rr_0_8, rr_1_0, rr_1_1, rr_1_2, rr_1_3, rr_2_4, rr_2_5, rr_2_6, rr_2_7, rr_2_8, rr_13_0, rr_15_4, rr_15_5, rr_15_6, rr_15_7, rr_15_8, rr_21_4, rr_21_5, rr_21_6, rr_21_7, rr_21_8, rr_27_4, rr_27_5, rr_27_6, rr_27_7, rr_27_8, rr_33_4, rr_33_5, rr_33_6, rr_33_7, rr_33_8, rr_39_4, rr_39_5, rr_39_6, rr_39_7, rr_39_8, rr_45_4, rr_45_5, rr_45_6, rr_45_7, rr_45_8, rr_51_4, rr_51_5, rr_51_6, rr_51_7, rr_51_8, rr_57_4, rr_57_5, rr_57_6, rr_57_7, rr_57_8, rr_63_2, rr_63_3, rr_63_4, rr_63_5, rr_68_0, rr_70_1, rr_70_2, rr_74_4, rr_74_5, rr_74_6, rr_74_7, rr_74_8, rr_80_4, rr_80_5, rr_80_6, rr_80_7, rr_80_8, rr_86_2, rr_88_2, rr_90_2, rr_92_0, rr_92_1, rr_92_5, rr_92_6, rr_92_8, rr_92_9, rr_92_12, rr_92_15, rr_92_16, rr_92_17, e0, hc, ↓reduceIte, c_endsUp E (Or.inl rfl) hC hW (show i < 12 by omega), Option.toList_some, List.cons_append, List.nil_append, c_bc, bc_bits (show D 0 ≤ 12 by omega), nI_add]
    exact ih (i + 1) (by omega)
theorem c_crossingsUp (E : ip_E) {σ : ip_G} {D : Nat → Nat} (hC : CD σ 2 D) (hW : WD D) (κ : Option Value → ip_G → Prop) : wp E 120 0 [.ref 1, .retAddr 0, .retAddr 0] [] σ κ = κ (some (.int (nI (sm (crN D) (D 1))))) σ := by
  simp only [I_120_0, I_120_1, I_120_2, I_120_3, I_120_5, I_120_6, I_120_9, I_120_12, I_120_15, I_120_16, I_120_17, I_120_20, I_120_21, I_120_24, I_120_27, I_120_28, I_120_29, I_120_32, I_120_35, I_120_36]
  exact L_crossingsUp E hC hW κ (D 1) 0 (by omega)
def flE (D : Nat → Nat) (i : Nat) : Nat := lrE (fun q => up D q i) (D 1)
def flP (D : Nat → Nat) (q : Nat) : Nat := lrE (up D q) (D 0)
theorem L_longestOfEnds (E : ip_E) {σ : ip_G} {D : Nat → Nat} (hC : CD σ 2 D) (hW : WD D) (κ : Option Value → ip_G → Prop) : ∀ (k i : Nat), i + k = D 0 → wp E 111 4 [.ref 1, .int (nI (mx (flE D) i)), .int (nI i)] [] σ κ = κ (some (.int (nI (mx (flE D) (D 0))))) σ := by
  have e0 := hC.1 0 (by omega)
  have e1 := hC.1 1 (by omega)
  have w := hW.1
  intro k
  induction k with
  | zero =>
    intro i hi
    have hc : nI (D 0) ≤ nI i := nI_le (by omega) (by omega)
    have hi2 : i = D 0 := by omega
    simp (disch := first | assumption | exact bz0 | exact bz1 | exact bzi | omega | decide +kernel) only [I_111_0, I_111_1, I_111_2, I_111_3, I_111_4, I_111_5, I_111_6, I_111_9, I_111_12, I_111_15, I_111_16, I_111_17, I_111_20, I_111_21, I_111_24, I_111_25, I_111_28, I_111_31, I_111_34, I_111_37, I_111_38, I_111_41, I_111_44, I_111_45, rr_0_0, rr_0_1, rr_0_2, rr_0_3, rr_0_4, rr_0_5, rr_0_6, rr_0_7, rr_0_8, rr_1_0, rr_1_1, rr_1_2, rr_1_3, rr_2_4, rr_2_5, rr_2_6, rr_2_7, rr_2_8, rr_13_0, rr_15_4, rr_15_5, rr_15_6, rr_15_7, rr_15_8, rr_21_4, rr_21_5, rr_21_6, rr_21_7, rr_21_8, rr_27_4, rr_27_5, rr_27_6, rr_27_7, rr_27_8, rr_33_4, rr_33_5, rr_33_6, rr_33_7, rr_33_8, rr_39_4, rr_39_5, rr_39_6, rr_39_7, rr_39_8, rr_45_4, rr_45_5, rr_45_6, rr_45_7, rr_45_8, rr_51_4, rr_51_5, rr_51_6, rr_51_7, rr_51_8, rr_57_4, rr_57_5, rr_57_6, rr_57_7, rr_57_8, rr_63_2, rr_63_3, rr_63_4, rr_63_5, rr_68_0, rr_70_1, rr_70_2, rr_74_4, rr_74_5, rr_74_6, rr_74_7, rr_74_8, rr_80_4, rr_80_5, rr_80_6, rr_80_7, rr_80_8, rr_86_2, rr_88_2, rr_90_2, rr_92_0, rr_92_1, rr_92_5, rr_92_6, rr_92_8, rr_92_9, rr_92_12, rr_92_15, rr_92_16, rr_92_17, e0, hc, ↓reduceIte]
    rw [hi2]
  | succ k ih =>
    intro i hi
    have hc : ¬ nI (D 0) ≤ nI i := nI_ge (by omega) (by omega)
    have b1 : mx (flE D) i ≤ D 1 := mx_le i (fun j _ => lrE_le _ _)
    have b2 : lrE (fun q => up D q i) (D 1) ≤ D 1 := lrE_le _ _
    rw [I_111_4]
    simp (disch := first | assumption | exact bz0 | exact bz1 | exact bzi | omega | decide +kernel) only [I_111_0, I_111_1, I_111_2, I_111_3, I_111_5, I_111_6, I_111_9, I_111_12, I_111_15, I_111_16, I_111_17, I_111_20, I_111_21, I_111_24, I_111_25, I_111_28, I_111_31, I_111_34, I_111_37, I_111_38, I_111_41, I_111_44, I_111_45, rr_0_0, rr_0_1, rr_0_2, rr_0_3, rr_0_4, rr_0_5, rr_0_6, rr_0_7, rr_0_8, rr_1_0, rr_1_1, rr_1_2, rr_1_3, rr_2_4, rr_2_5, rr_2_6, rr_2_7, rr_2_8, rr_13_0, rr_15_4, rr_15_5, rr_15_6, rr_15_7, rr_15_8, rr_21_4, rr_21_5, rr_21_6, rr_21_7, rr_21_8, rr_27_4, rr_27_5, rr_27_6, rr_27_7, rr_27_8, rr_33_4, rr_33_5, rr_33_6, rr_33_7, rr_33_8, rr_39_4, rr_39_5, rr_39_6, rr_39_7, rr_39_8, rr_45_4, rr_45_5, rr_45_6, rr_45_7, rr_45_8, rr_51_4, rr_51_5, rr_51_6, rr_51_7, rr_51_8, rr_57_4, rr_57_5, rr_57_6, rr_57_7, rr_57_8, rr_63_2, rr_63_3, rr_63_4, rr_63_5, rr_68_0, rr_70_1, rr_70_2, rr_74_4, rr_74_5, rr_74_6, rr_74_7, rr_74_8, rr_80_4, rr_80_5, rr_80_6, rr_80_7, rr_80_8, rr_86_2, rr_88_2, rr_90_2, rr_92_0, rr_92_1, rr_92_5, rr_92_6, rr_92_8, rr_92_9, rr_92_12, rr_92_15, rr_92_16, rr_92_17, e0, e1, hc, ↓reduceIte, c_picksUp E (Or.inl rfl) hC hW (show i < 12 by omega), c_either E _ (D 1) (show D 1 ≤ 31 by omega), Option.toList_some, List.cons_append, List.nil_append, nI_add, nI_max]
    exact ih (i + 1) (by omega)
theorem c_longestOfEnds (E : ip_E) {σ : ip_G} {D : Nat → Nat} (hC : CD σ 2 D) (hW : WD D) (κ : Option Value → ip_G → Prop) : wp E 111 0 [.ref 1, .retAddr 0, .retAddr 0] [] σ κ = κ (some (.int (nI (mx (flE D) (D 0))))) σ := by
  simp only [I_111_0, I_111_1, I_111_2, I_111_3, I_111_5, I_111_6, I_111_9, I_111_12, I_111_15, I_111_16, I_111_17, I_111_20, I_111_21, I_111_24, I_111_25, I_111_28, I_111_31, I_111_34, I_111_37, I_111_38, I_111_41, I_111_44, I_111_45]
  exact L_longestOfEnds E hC hW κ (D 0) 0 (by omega)
theorem L_longestOfPicks (E : ip_E) {σ : ip_G} {D : Nat → Nat} (hC : CD σ 2 D) (hW : WD D) (κ : Option Value → ip_G → Prop) : ∀ (k i : Nat), i + k = D 1 → wp E 92 4 [.ref 1, .int (nI (mx (flP D) i)), .int (nI i)] [] σ κ = κ (some (.int (nI (mx (flP D) (D 1))))) σ := by
  have e0 := hC.1 0 (by omega)
  have e1 := hC.1 1 (by omega)
  have w := hW.1
  intro k
  induction k with
  | zero =>
    intro i hi
    have hc : nI (D 1) ≤ nI i := nI_le (by omega) (by omega)
    have hi2 : i = D 1 := by omega
    simp (disch := first | assumption | exact bz0 | exact bz1 | exact bzi | omega | decide +kernel) only [I_92_0, I_92_1, I_92_2, I_92_3, I_92_4, I_92_5, I_92_6, I_92_9, I_92_12, I_92_15, I_92_16, I_92_17, I_92_20, I_92_21, I_92_24, I_92_25, I_92_28, I_92_31, I_92_34, I_92_37, I_92_38, I_92_41, I_92_44, I_92_45, rr_0_0, rr_0_1, rr_0_2, rr_0_3, rr_0_4, rr_0_5, rr_0_6, rr_0_7, rr_0_8, rr_1_0, rr_1_1, rr_1_2, rr_1_3, rr_2_4, rr_2_5, rr_2_6, rr_2_7, rr_2_8, rr_13_0, rr_15_4, rr_15_5, rr_15_6, rr_15_7, rr_15_8, rr_21_4, rr_21_5, rr_21_6, rr_21_7, rr_21_8, rr_27_4, rr_27_5, rr_27_6, rr_27_7, rr_27_8, rr_33_4, rr_33_5, rr_33_6, rr_33_7, rr_33_8, rr_39_4, rr_39_5, rr_39_6, rr_39_7, rr_39_8, rr_45_4, rr_45_5, rr_45_6, rr_45_7, rr_45_8, rr_51_4, rr_51_5, rr_51_6, rr_51_7, rr_51_8, rr_57_4, rr_57_5, rr_57_6, rr_57_7, rr_57_8, rr_63_2, rr_63_3, rr_63_4, rr_63_5, rr_68_0, rr_70_1, rr_70_2, rr_74_4, rr_74_5, rr_74_6, rr_74_7, rr_74_8, rr_80_4, rr_80_5, rr_80_6, rr_80_7, rr_80_8, rr_86_2, rr_88_2, rr_90_2, rr_92_0, rr_92_1, rr_92_5, rr_92_6, rr_92_8, rr_92_9, rr_92_12, rr_92_15, rr_92_16, rr_92_17, e1, hc, ↓reduceIte]
    rw [hi2]
  | succ k ih =>
    intro i hi
    have hc : ¬ nI (D 1) ≤ nI i := nI_ge (by omega) (by omega)
    have b1 : mx (flP D) i ≤ D 0 := mx_le i (fun j _ => lrE_le _ _)
    have b2 : lrE (up D i) (D 0) ≤ D 0 := lrE_le _ _
    rw [I_92_4]
    simp (disch := first | assumption | exact bz0 | exact bz1 | exact bzi | omega | decide +kernel) only [I_92_0, I_92_1, I_92_2, I_92_3, I_92_5, I_92_6, I_92_9, I_92_12, I_92_15, I_92_16, I_92_17, I_92_20, I_92_21, I_92_24, I_92_25, I_92_28, I_92_31, I_92_34, I_92_37, I_92_38, I_92_41, I_92_44, I_92_45, rr_0_0, rr_0_1, rr_0_2, rr_0_3, rr_0_4, rr_0_5, rr_0_6, rr_0_7, rr_0_8, rr_1_0, rr_1_1, rr_1_2, rr_1_3, rr_2_4, rr_2_5, rr_2_6, rr_2_7, rr_2_8, rr_13_0, rr_15_4, rr_15_5, rr_15_6, rr_15_7, rr_15_8, rr_21_4, rr_21_5, rr_21_6, rr_21_7, rr_21_8, rr_27_4, rr_27_5, rr_27_6, rr_27_7, rr_27_8, rr_33_4, rr_33_5, rr_33_6, rr_33_7, rr_33_8, rr_39_4, rr_39_5, rr_39_6, rr_39_7, rr_39_8, rr_45_4, rr_45_5, rr_45_6, rr_45_7, rr_45_8, rr_51_4, rr_51_5, rr_51_6, rr_51_7, rr_51_8, rr_57_4, rr_57_5, rr_57_6, rr_57_7, rr_57_8, rr_63_2, rr_63_3, rr_63_4, rr_63_5, rr_68_0, rr_70_1, rr_70_2, rr_74_4, rr_74_5, rr_74_6, rr_74_7, rr_74_8, rr_80_4, rr_80_5, rr_80_6, rr_80_7, rr_80_8, rr_86_2, rr_88_2, rr_90_2, rr_92_0, rr_92_1, rr_92_5, rr_92_6, rr_92_8, rr_92_9, rr_92_12, rr_92_15, rr_92_16, rr_92_17, e0, e1, hc, ↓reduceIte, c_endsUp E (Or.inl rfl) hC hW (show i < 12 by omega), c_either E _ (D 0) (show D 0 ≤ 31 by omega), Option.toList_some, List.cons_append, List.nil_append, nI_add, nI_max]
    exact ih (i + 1) (by omega)
theorem c_longestOfPicks (E : ip_E) {σ : ip_G} {D : Nat → Nat} (hC : CD σ 2 D) (hW : WD D) (κ : Option Value → ip_G → Prop) : wp E 92 0 [.ref 1, .retAddr 0, .retAddr 0] [] σ κ = κ (some (.int (nI (mx (flP D) (D 1))))) σ := by
  simp only [I_92_0, I_92_1, I_92_2, I_92_3, I_92_5, I_92_6, I_92_9, I_92_12, I_92_15, I_92_16, I_92_17, I_92_20, I_92_21, I_92_24, I_92_25, I_92_28, I_92_31, I_92_34, I_92_37, I_92_38, I_92_41, I_92_44, I_92_45]
  exact L_longestOfPicks E hC hW κ (D 1) 0 (by omega)
