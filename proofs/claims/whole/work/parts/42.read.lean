/-! DRAFTS: what is read off them (class) -/
theorem L_endsUp (E : ip_E) {σ : ip_G} {d : Nat} {D : Nat → Nat} (hd : isD d) (hC : CD σ d D) (hW : WD D) {q : Nat} (hq : q < 12) (κ : Option Value → ip_G → Prop) : ∀ (k i : Nat), i + k = D 0 → wp E 55 4 [.ref d, .int (nI q), .int (nI (bits (up D q) i)), .int (nI i)] [] σ κ = κ (some (.int (nI (bits (up D q) (D 0))))) σ := by
  obtain ⟨⟨f1, -⟩, -⟩ := isD_f hd
  have e0 := hC.1 0 (by omega)
  have w := hW.1
  intro k
  induction k with
  | zero =>
    intro i hi
    have hc : nI (D 0) ≤ nI i := nI_le (by omega) (by omega)
    have hi2 : i = D 0 := by omega
    simp (disch := first | assumption | exact bz0 | exact bz1 | exact bzi | omega | decide +kernel) only [I_55_0, I_55_1, I_55_2, I_55_3, I_55_4, I_55_5, I_55_6, I_55_9, I_55_12, I_55_13, I_55_14, I_55_15, I_55_18, I_55_21, I_55_22, I_55_23, I_55_24, I_55_25, I_55_26, I_55_27, I_55_30, I_55_33, I_55_34, e0, hc, ↓reduceIte]
    rw [hi2]
  | succ k ih =>
    intro i hi
    have hc : ¬ nI (D 0) ≤ nI i := nI_ge (by omega) (by omega)
    rw [I_55_4]
    simp (disch := first | assumption | exact bz0 | exact bz1 | exact bzi | omega | decide +kernel) only [I_55_0, I_55_1, I_55_2, I_55_3, I_55_5, I_55_6, I_55_9, I_55_12, I_55_13, I_55_14, I_55_15, I_55_18, I_55_21, I_55_22, I_55_23, I_55_24, I_55_25, I_55_26, I_55_27, I_55_30, I_55_33, I_55_34, e0, hc, ↓reduceIte, c_isUp E hd hC hW hq (show i < 12 by omega), Option.toList_some, List.cons_append, List.nil_append]
    have e1 : bits (up D q) (i + 1) = bits (up D q) i ||| (if up D q i = true then 2 ^ i else 0) := rfl
    have ih1 := ih (i + 1) (by omega)
    rw [e1] at ih1
    cases hu : up D q i with
    | true =>
      rw [hu] at ih1
      simp (disch := first | assumption | exact bz0 | exact bz1 | exact bzi | omega | decide +kernel) only [I_55_0, I_55_1, I_55_2, I_55_3, I_55_5, I_55_6, I_55_9, I_55_12, I_55_13, I_55_14, I_55_15, I_55_18, I_55_21, I_55_22, I_55_23, I_55_24, I_55_25, I_55_26, I_55_27, I_55_30, I_55_33, I_55_34, ↓reduceIte, ip_nI0, show ¬ nI 1 = 0 from by decide +kernel, nI_shl1 (show i < 31 by omega), nx_or, nI_add]
      exact ih1
    | false =>
      rw [hu] at ih1
      simp only [Bool.false_eq_true, ↓reduceIte, Nat.or_zero] at ih1
      simp (disch := first | assumption | exact bz0 | exact bz1 | exact bzi | omega | decide +kernel) only [I_55_0, I_55_1, I_55_2, I_55_3, I_55_5, I_55_6, I_55_9, I_55_12, I_55_13, I_55_14, I_55_15, I_55_18, I_55_21, I_55_22, I_55_23, I_55_24, I_55_25, I_55_26, I_55_27, I_55_30, I_55_33, I_55_34, ↓reduceIte, Bool.false_eq_true, ip_nI0, nI_add]
      exact ih1
theorem c_endsUp (E : ip_E) {σ : ip_G} {d : Nat} {D : Nat → Nat} (hd : isD d) (hC : CD σ d D) (hW : WD D) {q : Nat} (hq : q < 12) (κ : Option Value → ip_G → Prop) : wp E 55 0 [.ref d, .int (nI q), .retAddr 0, .retAddr 0] [] σ κ = κ (some (.int (nI (bits (up D q) (D 0))))) σ := by
  simp only [I_55_0, I_55_1, I_55_2, I_55_3, I_55_5, I_55_6, I_55_9, I_55_12, I_55_13, I_55_14, I_55_15, I_55_18, I_55_21, I_55_22, I_55_23, I_55_24, I_55_25, I_55_26, I_55_27, I_55_30, I_55_33, I_55_34]
  exact L_endsUp E hd hC hW hq κ (D 0) 0 (by omega)
theorem L_picksUp (E : ip_E) {σ : ip_G} {d : Nat} {D : Nat → Nat} (hd : isD d) (hC : CD σ d D) (hW : WD D) {x : Nat} (hx : x < 12) (κ : Option Value → ip_G → Prop) : ∀ (k i : Nat), i + k = D 1 → wp E 49 4 [.ref d, .int (nI x), .int (nI (bits (fun q => up D q x) i)), .int (nI i)] [] σ κ = κ (some (.int (nI (bits (fun q => up D q x) (D 1))))) σ := by
  obtain ⟨⟨f1, -⟩, -⟩ := isD_f hd
  have e0 := hC.1 1 (by omega)
  have w := hW.1
  intro k
  induction k with
  | zero =>
    intro i hi
    have hc : nI (D 1) ≤ nI i := nI_le (by omega) (by omega)
    have hi2 : i = D 1 := by omega
    simp (disch := first | assumption | exact bz0 | exact bz1 | exact bzi | omega | decide +kernel) only [I_49_0, I_49_1, I_49_2, I_49_3, I_49_4, I_49_5, I_49_6, I_49_9, I_49_12, I_49_13, I_49_14, I_49_15, I_49_18, I_49_21, I_49_22, I_49_23, I_49_24, I_49_25, I_49_26, I_49_27, I_49_30, I_49_33, I_49_34, e0, hc, ↓reduceIte]
    rw [hi2]
  | succ k ih =>
    intro i hi
    have hc : ¬ nI (D 1) ≤ nI i := nI_ge (by omega) (by omega)
    rw [I_49_4]
    simp (disch := first | assumption | exact bz0 | exact bz1 | exact bzi | omega | decide +kernel) only [I_49_0, I_49_1, I_49_2, I_49_3, I_49_5, I_49_6, I_49_9, I_49_12, I_49_13, I_49_14, I_49_15, I_49_18, I_49_21, I_49_22, I_49_23, I_49_24, I_49_25, I_49_26, I_49_27, I_49_30, I_49_33, I_49_34, e0, hc, ↓reduceIte, c_isUp E hd hC hW (show i < 12 by omega) hx, Option.toList_some, List.cons_append, List.nil_append]
    have e1 : bits (fun q => up D q x) (i + 1) = bits (fun q => up D q x) i ||| (if up D i x = true then 2 ^ i else 0) := rfl
    have ih1 := ih (i + 1) (by omega)
    rw [e1] at ih1
    cases hu : up D i x with
    | true =>
      rw [hu] at ih1
      simp (disch := first | assumption | exact bz0 | exact bz1 | exact bzi | omega | decide +kernel) only [I_49_0, I_49_1, I_49_2, I_49_3, I_49_5, I_49_6, I_49_9, I_49_12, I_49_13, I_49_14, I_49_15, I_49_18, I_49_21, I_49_22, I_49_23, I_49_24, I_49_25, I_49_26, I_49_27, I_49_30, I_49_33, I_49_34, ↓reduceIte, ip_nI0, show ¬ nI 1 = 0 from by decide +kernel, nI_shl1 (show i < 31 by omega), nx_or, nI_add]
      exact ih1
    | false =>
      rw [hu] at ih1
      simp only [Bool.false_eq_true, ↓reduceIte, Nat.or_zero] at ih1
      simp (disch := first | assumption | exact bz0 | exact bz1 | exact bzi | omega | decide +kernel) only [I_49_0, I_49_1, I_49_2, I_49_3, I_49_5, I_49_6, I_49_9, I_49_12, I_49_13, I_49_14, I_49_15, I_49_18, I_49_21, I_49_22, I_49_23, I_49_24, I_49_25, I_49_26, I_49_27, I_49_30, I_49_33, I_49_34, ↓reduceIte, Bool.false_eq_true, ip_nI0, nI_add]
      exact ih1
theorem c_picksUp (E : ip_E) {σ : ip_G} {d : Nat} {D : Nat → Nat} (hd : isD d) (hC : CD σ d D) (hW : WD D) {x : Nat} (hx : x < 12) (κ : Option Value → ip_G → Prop) : wp E 49 0 [.ref d, .int (nI x), .retAddr 0, .retAddr 0] [] σ κ = κ (some (.int (nI (bits (fun q => up D q x) (D 1))))) σ := by
  simp only [I_49_0, I_49_1, I_49_2, I_49_3, I_49_5, I_49_6, I_49_9, I_49_12, I_49_13, I_49_14, I_49_15, I_49_18, I_49_21, I_49_22, I_49_23, I_49_24, I_49_25, I_49_26, I_49_27, I_49_30, I_49_33, I_49_34]
  exact L_picksUp E hd hC hW hx κ (D 1) 0 (by omega)
/-- a shaft's treadles -/
def trd (D : Nat → Nat) (k j : Nat) : Bool := (D (16 + j)).testBit k
theorem L_treadlesOf (E : ip_E) {σ : ip_G} {d : Nat} {D : Nat → Nat} (hd : isD d) (hC : CD σ d D) (hW : WD D) {x : Nat} (hx : x < 12) (κ : Option Value → ip_G → Prop) : ∀ (k i : Nat), i + k = D 3 → wp E 80 4 [.ref d, .int (nI x), .int (nI (bits (trd D x) i)), .int (nI i)] [] σ κ = κ (some (.int (nI (bits (trd D x) (D 3))))) σ := by
  obtain ⟨⟨f1, f2, f3, f4, f5, f6⟩, ⟨g1, g2, g3, g4, g5⟩, ⟨l1, l2, l3, l4, l5⟩⟩ := isD_f hd
  have e0 := hC.1 3 (by omega)
  have w := hW.1
  intro k
  induction k with
  | zero =>
    intro i hi
    have hc : nI (D 3) ≤ nI i := nI_le (by omega) (by omega)
    have hi2 : i = D 3 := by omega
    simp (disch := first | assumption | exact bz0 | exact bz1 | exact bzi | omega | decide +kernel) only [I_80_0, I_80_1, I_80_2, I_80_3, I_80_4, I_80_5, I_80_6, I_80_9, I_80_12, I_80_13, I_80_16, I_80_17, I_80_18, I_80_19, I_80_20, I_80_21, I_80_22, I_80_23, I_80_26, I_80_27, I_80_28, I_80_29, I_80_30, I_80_31, I_80_32, I_80_35, I_80_38, I_80_39, e0, hc, ↓reduceIte]
    rw [hi2]
  | succ k ih =>
    intro i hi
    have hc : ¬ nI (D 3) ≤ nI i := nI_ge (by omega) (by omega)
    have e2 := hC.2.2.1 i (by omega)
    rw [I_80_4]
    simp (disch := first | assumption | exact bz0 | exact bz1 | exact bzi | omega | decide +kernel) only [I_80_0, I_80_1, I_80_2, I_80_3, I_80_5, I_80_6, I_80_9, I_80_12, I_80_13, I_80_16, I_80_17, I_80_18, I_80_19, I_80_20, I_80_21, I_80_22, I_80_23, I_80_26, I_80_27, I_80_28, I_80_29, I_80_30, I_80_31, I_80_32, I_80_35, I_80_38, I_80_39, e0, f3, e2, hc, ↓reduceIte, bt_get, bt_nI]
    have e1 : bits (trd D x) (i + 1) = bits (trd D x) i ||| (if (D (16 + i)).testBit x = true then 2 ^ i else 0) := rfl
    have ih1 := ih (i + 1) (by omega)
    rw [e1] at ih1
    cases hu : (D (16 + i)).testBit x with
    | true =>
      rw [hu] at ih1
      simp (disch := first | assumption | exact bz0 | exact bz1 | exact bzi | omega | decide +kernel) only [I_80_0, I_80_1, I_80_2, I_80_3, I_80_5, I_80_6, I_80_9, I_80_12, I_80_13, I_80_16, I_80_17, I_80_18, I_80_19, I_80_20, I_80_21, I_80_22, I_80_23, I_80_26, I_80_27, I_80_28, I_80_29, I_80_30, I_80_31, I_80_32, I_80_35, I_80_38, I_80_39, ↓reduceIte, not_true_eq_false, nI_shl1 (show i < 31 by omega), nx_or, nI_add]
      exact ih1
    | false =>
      rw [hu] at ih1
      simp only [Bool.false_eq_true, ↓reduceIte, Nat.or_zero] at ih1
      simp (disch := first | assumption | exact bz0 | exact bz1 | exact bzi | omega | decide +kernel) only [I_80_0, I_80_1, I_80_2, I_80_3, I_80_5, I_80_6, I_80_9, I_80_12, I_80_13, I_80_16, I_80_17, I_80_18, I_80_19, I_80_20, I_80_21, I_80_22, I_80_23, I_80_26, I_80_27, I_80_28, I_80_29, I_80_30, I_80_31, I_80_32, I_80_35, I_80_38, I_80_39, ↓reduceIte, Bool.false_eq_true, ne01, not_false_eq_true, nI_add]
      exact ih1
theorem c_treadlesOf (E : ip_E) {σ : ip_G} {d : Nat} {D : Nat → Nat} (hd : isD d) (hC : CD σ d D) (hW : WD D) {x : Nat} (hx : x < 12) (κ : Option Value → ip_G → Prop) : wp E 80 0 [.ref d, .int (nI x), .retAddr 0, .retAddr 0] [] σ κ = κ (some (.int (nI (bits (trd D x) (D 3))))) σ := by
  simp only [I_80_0, I_80_1, I_80_2, I_80_3, I_80_5, I_80_6, I_80_9, I_80_12, I_80_13, I_80_16, I_80_17, I_80_18, I_80_19, I_80_20, I_80_21, I_80_22, I_80_23, I_80_26, I_80_27, I_80_28, I_80_29, I_80_30, I_80_31, I_80_32, I_80_35, I_80_38, I_80_39]
  exact L_treadlesOf E hd hC hW hx κ (D 3) 0 (by omega)
/-- sums and greatest -/
def sm (g : Nat → Nat) : Nat → Nat
  | 0 => 0
  | n + 1 => sm g n + g n
def mx (g : Nat → Nat) : Nat → Nat
  | 0 => 0
  | n + 1 => max (mx g n) (g n)
def b2n (b : Bool) : Nat := if b = true then 1 else 0
/-- how many of f -/
def cnt (f : Nat → Bool) (n : Nat) : Nat := sm (fun i => b2n (f i)) n
theorem sm_le {g : Nat → Nat} {m : Nat} : ∀ n, (∀ i, i < n → g i ≤ m) → sm g n ≤ n * m
  | 0, _ => by simp [sm]
  | n + 1, h => by
    have h1 := sm_le n (fun i hi => h i (by omega))
    have h2 := h n (by omega)
    unfold sm
    rw [Nat.succ_mul]
    omega
theorem mx_le {g : Nat → Nat} {m : Nat} : ∀ n, (∀ i, i < n → g i ≤ m) → mx g n ≤ m
  | 0, _ => Nat.zero_le _
  | n + 1, h => by
    have h1 := mx_le n (fun i hi => h i (by omega))
    have h2 := h n (by omega)
    unfold mx
    omega
theorem sm_congr {g g' : Nat → Nat} : ∀ n, (∀ i, i < n → g i = g' i) → sm g n = sm g' n
  | 0, _ => rfl
  | n + 1, h => by
    unfold sm
    rw [sm_congr n (fun i hi => h i (by omega)), h n (by omega)]
theorem mx_congr {g g' : Nat → Nat} : ∀ n, (∀ i, i < n → g i = g' i) → mx g n = mx g' n
  | 0, _ => rfl
  | n + 1, h => by
    unfold mx
    rw [mx_congr n (fun i hi => h i (by omega)), h n (by omega)]
theorem cnt_congr {f f' : Nat → Bool} (n : Nat) (h : ∀ i, i < n → f i = f' i) : cnt f n = cnt f' n := sm_congr n (fun i hi => by rw [h i hi])
theorem b2n_le (b : Bool) : b2n b ≤ 1 := by cases b <;> decide
theorem cnt_le (f : Nat → Bool) (n : Nat) : cnt f n ≤ n := by
  have := sm_le (g := fun i => b2n (f i)) (m := 1) n (fun i _ => b2n_le _)
  unfold cnt
  omega
theorem lrF_congr {f g : Nat → Bool} : ∀ (k i lo ru : Nat), (∀ j, i ≤ j → j < i + k → f j = g j) → lrF f k i lo ru = lrF g k i lo ru := by
  intro k
  induction k with
  | zero => intros; rfl
  | succ k ih =>
    intro i lo ru h
    unfold lrF
    rw [h i (Nat.le_refl _) (by omega), ih _ _ _ (fun j h1 h2 => h j (by omega) (by omega)), ih _ _ _ (fun j h1 h2 => h j (by omega) (by omega))]
theorem lrun_congr {f g : Nat → Bool} {n : Nat} (h : ∀ j, j < n → f j = g j) : lrun f n = lrun g n := lrF_congr n 0 0 0 (fun j _ h2 => h j (by omega))
/-- the longest run, of those in or of those out -/
def lrE (f : Nat → Bool) (n : Nat) : Nat := max (lrun f n) (lrun (fun i => !f i) n)
theorem lrE_le (f : Nat → Bool) (n : Nat) : lrE f n ≤ n := by
  have h1 := lrun_le f n
  have h2 := lrun_le (fun i => !f i) n
  unfold lrE
  omega
theorem bt_not (x : Int32) {i : Nat} (hi : i < 32) : bt (x ^^^ (-1)) i = !bt x i := by rw [b_xor, b_m1 i hi]; simp
theorem nI_max {a b : Nat} (ha : a < 2147483648) (hb : b < 2147483648) : (if nI a < nI b then nI b else nI a) = nI (max a b) := by
  by_cases h : a < b
  · rw [if_pos (nI_lt h (by omega)), Nat.max_eq_right (by omega)]
  · rw [if_neg (nI_nlt (by omega) (by omega)), Nat.max_eq_left (by omega)]
theorem bt_bits {f : Nat → Bool} {n i : Nat} (hi : i < n) (hn : n ≤ 31) : bt (nI (bits f n)) i = f i := by
  rw [bt_nI (by omega), bits_test]
  simp [hi]
theorem lr_bits {f : Nat → Bool} {n : Nat} (hn : n ≤ 31) : lrun (bt (nI (bits f n))) n = lrun f n := lrun_congr (fun j hj => bt_bits hj hn)
theorem lr_bitsN {f : Nat → Bool} {n : Nat} (hn : n ≤ 31) : lrun (bt (nI (bits f n) ^^^ (-1))) n = lrun (fun i => !f i) n := lrun_congr (fun j hj => by rw [bt_not _ (by omega), bt_bits hj hn])
theorem c_either (E : ip_E) (f : Nat → Bool) (n : Nat) (hn : n ≤ 31) (σ : ip_G) (κ : Option Value → ip_G → Prop) : wp E 93 0 [.int (nI (bits f n)), .int (nI n)] [] σ κ = κ (some (.int (nI (lrE f n)))) σ := by
  have h1 := lrun_le f n
  have h2 := lrun_le (fun i => !f i) n
  simp only [I_93_0, I_93_1, I_93_2, I_93_5, I_93_6, I_93_7, I_93_8, I_93_9, I_93_12, I_93_15, c_longestRun E _ n hn, lr_bits hn, lr_bitsN hn, Option.toList_some, List.cons_append, List.nil_append]
  rw [nI_max (by omega) (by omega)]
  rfl
theorem c_lowest (E : ip_E) (x : Int32) (σ : ip_G) (κ : Option Value → ip_G → Prop) : wp E 57 0 [.int x] [] σ κ = κ (some (.int (nI 1 <<< (x &&& 31) - nI 1))) σ := by
  simp only [I_57_0, I_57_1, I_57_2, I_57_3, I_57_4, I_57_5]
theorem c_floatOfEnd (E : ip_E) {σ : ip_G} {D : Nat → Nat} (hC : CD σ 2 D) (hW : WD D) {x : Nat} (hx : x < 12) (b : Bool) (κ : Option Value → ip_G → Prop) : wp E 48 0 [.ref 1, .int (nI x), .int (nI (b2n b)), .retAddr 0] [] σ κ = κ (some (.int (nI (lrun (fun q => up D q x == b) (D 1))))) σ := by
  have w := hW.1
  have e1 := hC.1 1 (by omega)
  cases b with
  | true =>
    have h : lrun (fun q => up D q x == true) (D 1) = lrun (fun q => up D q x) (D 1) := lrun_congr (fun j _ => by simp)
    simp (disch := first | assumption | exact bz0 | exact bz1 | exact bzi | omega | decide +kernel) only [I_48_0, I_48_1, I_48_4, I_48_5, I_48_8, I_48_9, I_48_10, I_48_13, I_48_14, I_48_17, I_48_18, I_48_19, I_48_20, I_48_21, I_48_24, I_48_27, I_48_30, rr_0_0, rr_0_1, rr_0_2, rr_0_3, rr_0_4, rr_0_5, rr_0_6, rr_0_7, rr_0_8, rr_1_0, rr_1_1, rr_1_2, rr_1_3, rr_2_4, rr_2_5, rr_2_6, rr_2_7, rr_2_8, rr_13_0, rr_15_4, rr_15_5, rr_15_6, rr_15_7, rr_15_8, rr_21_4, rr_21_5, rr_21_6, rr_21_7, rr_21_8, rr_27_4, rr_27_5, rr_27_6, rr_27_7, rr_27_8, rr_33_4, rr_33_5, rr_33_6, rr_33_7, rr_33_8, rr_39_4, rr_39_5, rr_39_6, rr_39_7, rr_39_8, rr_45_4, rr_45_5, rr_45_6, rr_45_7, rr_45_8, rr_51_4, rr_51_5, rr_51_6, rr_51_7, rr_51_8, rr_57_4, rr_57_5, rr_57_6, rr_57_7, rr_57_8, rr_63_2, rr_63_3, rr_63_4, rr_63_5, rr_68_0, rr_70_1, rr_70_2, rr_74_4, rr_74_5, rr_74_6, rr_74_7, rr_74_8, rr_80_4, rr_80_5, rr_80_6, rr_80_7, rr_80_8, rr_86_2, rr_88_2, rr_90_2, rr_92_0, rr_92_1, rr_92_5, rr_92_6, rr_92_8, rr_92_9, rr_92_12, rr_92_15, rr_92_16, rr_92_17, c_picksUp E (Or.inl rfl) hC hW hx, e1, b2n, show ¬ nI 1 = 0 from by decide +kernel, ↓reduceIte, Option.toList_some, List.cons_append, List.nil_append, c_longestRun E _ (D 1) (show D 1 ≤ 31 by omega), lr_bits (show D 1 ≤ 31 by omega), h]
  | false =>
    have h : lrun (fun q => up D q x == false) (D 1) = lrun (fun q => !up D q x) (D 1) := lrun_congr (fun j _ => by simp)
    simp (disch := first | assumption | exact bz0 | exact bz1 | exact bzi | omega | decide +kernel) only [I_48_0, I_48_1, I_48_4, I_48_5, I_48_8, I_48_9, I_48_10, I_48_13, I_48_14, I_48_17, I_48_18, I_48_19, I_48_20, I_48_21, I_48_24, I_48_27, I_48_30, rr_0_0, rr_0_1, rr_0_2, rr_0_3, rr_0_4, rr_0_5, rr_0_6, rr_0_7, rr_0_8, rr_1_0, rr_1_1, rr_1_2, rr_1_3, rr_2_4, rr_2_5, rr_2_6, rr_2_7, rr_2_8, rr_13_0, rr_15_4, rr_15_5, rr_15_6, rr_15_7, rr_15_8, rr_21_4, rr_21_5, rr_21_6, rr_21_7, rr_21_8, rr_27_4, rr_27_5, rr_27_6, rr_27_7, rr_27_8, rr_33_4, rr_33_5, rr_33_6, rr_33_7, rr_33_8, rr_39_4, rr_39_5, rr_39_6, rr_39_7, rr_39_8, rr_45_4, rr_45_5, rr_45_6, rr_45_7, rr_45_8, rr_51_4, rr_51_5, rr_51_6, rr_51_7, rr_51_8, rr_57_4, rr_57_5, rr_57_6, rr_57_7, rr_57_8, rr_63_2, rr_63_3, rr_63_4, rr_63_5, rr_68_0, rr_70_1, rr_70_2, rr_74_4, rr_74_5, rr_74_6, rr_74_7, rr_74_8, rr_80_4, rr_80_5, rr_80_6, rr_80_7, rr_80_8, rr_86_2, rr_88_2, rr_90_2, rr_92_0, rr_92_1, rr_92_5, rr_92_6, rr_92_8, rr_92_9, rr_92_12, rr_92_15, rr_92_16, rr_92_17, c_picksUp E (Or.inl rfl) hC hW hx, e1, b2n, ip_nI0, Bool.false_eq_true, ↓reduceIte, Option.toList_some, List.cons_append, List.nil_append, c_longestRun E _ (D 1) (show D 1 ≤ 31 by omega), lr_bitsN (show D 1 ≤ 31 by omega), h]
theorem c_floatOfPick (E : ip_E) {σ : ip_G} {D : Nat → Nat} (hC : CD σ 2 D) (hW : WD D) {x : Nat} (hx : x < 12) (b : Bool) (κ : Option Value → ip_G → Prop) : wp E 54 0 [.ref 1, .int (nI x), .int (nI (b2n b)), .retAddr 0] [] σ κ = κ (some (.int (nI (lrun (fun i => up D x i == b) (D 0))))) σ := by
  have w := hW.1
  have e1 := hC.1 0 (by omega)
  cases b with
  | true =>
    have h : lrun (fun q => up D x q == true) (D 0) = lrun (up D x) (D 0) := lrun_congr (fun j _ => by simp)
    simp (disch := first | assumption | exact bz0 | exact bz1 | exact bzi | omega | decide +kernel) only [I_54_0, I_54_1, I_54_4, I_54_5, I_54_8, I_54_9, I_54_10, I_54_13, I_54_14, I_54_17, I_54_18, I_54_19, I_54_20, I_54_21, I_54_24, I_54_27, I_54_30, rr_0_0, rr_0_1, rr_0_2, rr_0_3, rr_0_4, rr_0_5, rr_0_6, rr_0_7, rr_0_8, rr_1_0, rr_1_1, rr_1_2, rr_1_3, rr_2_4, rr_2_5, rr_2_6, rr_2_7, rr_2_8, rr_13_0, rr_15_4, rr_15_5, rr_15_6, rr_15_7, rr_15_8, rr_21_4, rr_21_5, rr_21_6, rr_21_7, rr_21_8, rr_27_4, rr_27_5, rr_27_6, rr_27_7, rr_27_8, rr_33_4, rr_33_5, rr_33_6, rr_33_7, rr_33_8, rr_39_4, rr_39_5, rr_39_6, rr_39_7, rr_39_8, rr_45_4, rr_45_5, rr_45_6, rr_45_7, rr_45_8, rr_51_4, rr_51_5, rr_51_6, rr_51_7, rr_51_8, rr_57_4, rr_57_5, rr_57_6, rr_57_7, rr_57_8, rr_63_2, rr_63_3, rr_63_4, rr_63_5, rr_68_0, rr_70_1, rr_70_2, rr_74_4, rr_74_5, rr_74_6, rr_74_7, rr_74_8, rr_80_4, rr_80_5, rr_80_6, rr_80_7, rr_80_8, rr_86_2, rr_88_2, rr_90_2, rr_92_0, rr_92_1, rr_92_5, rr_92_6, rr_92_8, rr_92_9, rr_92_12, rr_92_15, rr_92_16, rr_92_17, c_endsUp E (Or.inl rfl) hC hW hx, e1, b2n, show ¬ nI 1 = 0 from by decide +kernel, ↓reduceIte, Option.toList_some, List.cons_append, List.nil_append, c_longestRun E _ (D 0) (show D 0 ≤ 31 by omega), lr_bits (show D 0 ≤ 31 by omega), h]
  | false =>
    have h : lrun (fun q => up D x q == false) (D 0) = lrun (fun i => !up D x i) (D 0) := lrun_congr (fun j _ => by simp)
    simp (disch := first | assumption | exact bz0 | exact bz1 | exact bzi | omega | decide +kernel) only [I_54_0, I_54_1, I_54_4, I_54_5, I_54_8, I_54_9, I_54_10, I_54_13, I_54_14, I_54_17, I_54_18, I_54_19, I_54_20, I_54_21, I_54_24, I_54_27, I_54_30, rr_0_0, rr_0_1, rr_0_2, rr_0_3, rr_0_4, rr_0_5, rr_0_6, rr_0_7, rr_0_8, rr_1_0, rr_1_1, rr_1_2, rr_1_3, rr_2_4, rr_2_5, rr_2_6, rr_2_7, rr_2_8, rr_13_0, rr_15_4, rr_15_5, rr_15_6, rr_15_7, rr_15_8, rr_21_4, rr_21_5, rr_21_6, rr_21_7, rr_21_8, rr_27_4, rr_27_5, rr_27_6, rr_27_7, rr_27_8, rr_33_4, rr_33_5, rr_33_6, rr_33_7, rr_33_8, rr_39_4, rr_39_5, rr_39_6, rr_39_7, rr_39_8, rr_45_4, rr_45_5, rr_45_6, rr_45_7, rr_45_8, rr_51_4, rr_51_5, rr_51_6, rr_51_7, rr_51_8, rr_57_4, rr_57_5, rr_57_6, rr_57_7, rr_57_8, rr_63_2, rr_63_3, rr_63_4, rr_63_5, rr_68_0, rr_70_1, rr_70_2, rr_74_4, rr_74_5, rr_74_6, rr_74_7, rr_74_8, rr_80_4, rr_80_5, rr_80_6, rr_80_7, rr_80_8, rr_86_2, rr_88_2, rr_90_2, rr_92_0, rr_92_1, rr_92_5, rr_92_6, rr_92_8, rr_92_9, rr_92_12, rr_92_15, rr_92_16, rr_92_17, c_endsUp E (Or.inl rfl) hC hW hx, e1, b2n, ip_nI0, Bool.false_eq_true, ↓reduceIte, Option.toList_some, List.cons_append, List.nil_append, c_longestRun E _ (D 0) (show D 0 ≤ 31 by omega), lr_bitsN (show D 0 ≤ 31 by omega), h]
