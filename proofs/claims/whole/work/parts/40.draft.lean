/-! DRAFTS: places, what they hold, the cloth -/
def isD (d : Nat) : Prop := d = 2 ∨ d = 15 ∨ d = 21 ∨ d = 27 ∨ d = 33 ∨ d = 39 ∨ d = 45 ∨ d = 51 ∨ d = 57 ∨ d = 74 ∨ d = 80
theorem isD_all : ∀ d ∈ [2, 15, 21, 27, 33, 39, 45, 51, 57, 74, 80], (ip_tg d = some 1 ∧ ip_rr d 4 = d + 1 ∧ ip_rr d 5 = d + 2 ∧ ip_rr d 6 = d + 3 ∧ ip_rr d 7 = d + 4 ∧ ip_rr d 8 = d + 5) ∧ (ip_tg (d + 1) = some 100 ∧ ip_tg (d + 2) = some 100 ∧ ip_tg (d + 3) = some 100 ∧ ip_tg (d + 4) = some 100 ∧ ip_tg (d + 5) = some 100) ∧ (ip_ln (d + 1) = 12 ∧ ip_ln (d + 2) = 6 ∧ ip_ln (d + 3) = 12 ∧ ip_ln (d + 4) = 12 ∧ ip_ln (d + 5) = 12) := by decide +kernel
theorem isD_mem {d : Nat} (h : isD d) : d ∈ [2, 15, 21, 27, 33, 39, 45, 51, 57, 74, 80] := by
  unfold isD at h
  simp only [List.mem_cons, List.not_mem_nil, or_false]
  exact h
theorem isD_f {d : Nat} (h : isD d) : (ip_tg d = some 1 ∧ ip_rr d 4 = d + 1 ∧ ip_rr d 5 = d + 2 ∧ ip_rr d 6 = d + 3 ∧ ip_rr d 7 = d + 4 ∧ ip_rr d 8 = d + 5) ∧ (ip_tg (d + 1) = some 100 ∧ ip_tg (d + 2) = some 100 ∧ ip_tg (d + 3) = some 100 ∧ ip_tg (d + 4) = some 100 ∧ ip_tg (d + 5) = some 100) ∧ (ip_ln (d + 1) = 12 ∧ ip_ln (d + 2) = 6 ∧ ip_ln (d + 3) = 12 ∧ ip_ln (d + 4) = 12 ∧ ip_ln (d + 5) = 12) := isD_all d (isD_mem h)
/-- the class's draft at place d tells D (laid out as the reference's row) -/
def CD (σ : ip_G) (d : Nat) (D : Nat → Nat) : Prop := (∀ j, j < 4 → σ d j = nI (D j)) ∧ (∀ i, i < 12 → σ (d + 1) i = nI (D (4 + i))) ∧ (∀ i, i < D 3 → σ (d + 2) i = nI (D (16 + i))) ∧ (∀ i, i < 12 → σ (d + 3) i = nI (D (22 + i))) ∧ (∀ i, i < 12 → σ (d + 4) i = nI (D (34 + i))) ∧ (∀ i, i < 12 → σ (d + 5) i = nI (D (46 + i)))
/-- D is a draft -/
def WD (D : Nat → Nat) : Prop := (1 ≤ D 0 ∧ D 0 ≤ 12 ∧ 1 ≤ D 1 ∧ D 1 ≤ 12 ∧ 1 ≤ D 2 ∧ D 2 ≤ 6 ∧ 1 ≤ D 3 ∧ D 3 ≤ 6) ∧ (∀ i, i < 12 → D (4 + i) < D 2) ∧ (∀ i, i < D 3 → D (16 + i) < 2 ^ D 2) ∧ (∀ i, i < 12 → D (22 + i) < D 3) ∧ (∀ i, i < 12 → D (34 + i) ≤ 9) ∧ (∀ i, i < 12 → D (46 + i) ≤ 9)
def up (D : Nat → Nat) (q i : Nat) : Bool := (D (16 + D (22 + q))).testBit (D (4 + i))
/-- the longest run of those that f tells, from place i on, k more -/
def lrF (f : Nat → Bool) : Nat → Nat → Nat → Nat → Nat
  | 0, _, lo, _ => lo
  | k + 1, i, lo, ru => if f i = true then lrF f k (i + 1) (max lo (ru + 1)) (ru + 1) else lrF f k (i + 1) lo 0
theorem lrF_le (f : Nat → Bool) : ∀ (k i lo ru : Nat), lo ≤ i → ru ≤ i → lrF f k i lo ru ≤ i + k := by
  intro k
  induction k with
  | zero => intro i lo ru h1 h2; exact h1
  | succ k ih =>
    intro i lo ru h1 h2
    unfold lrF
    split
    · have := ih (i + 1) (max lo (ru + 1)) (ru + 1) (by omega) (by omega); omega
    · have := ih (i + 1) lo 0 (by omega) (by omega); omega
def lrun (f : Nat → Bool) (n : Nat) : Nat := lrF f n 0 0 0
theorem lrun_le (f : Nat → Bool) (n : Nat) : lrun f n ≤ n := by
  have := lrF_le f n 0 0 0 (Nat.le_refl _) (Nat.le_refl _)
  unfold lrun
  omega
theorem L_longestRun (E : ip_E) (x : Int32) (n : Nat) (hn : n ≤ 31) (σ : ip_G) (κ : Option Value → ip_G → Prop) : ∀ (k i lo ru : Nat), i + k = n → lo ≤ i → ru ≤ i → wp E 51 7 [.int x, .int (nI n), .int (nI lo), .int (nI ru), .int (nI i)] [] σ κ = κ (some (.int (nI (lrF (bt x) k i lo ru)))) σ := by
  intro k
  induction k with
  | zero =>
    intro i lo ru hi h1 h2
    have hc : nI n ≤ nI i := nI_le (by omega) (by omega)
    simp only [I_51_0, I_51_1, I_51_2, I_51_3, I_51_4, I_51_5, I_51_7, I_51_9, I_51_10, I_51_13, I_51_14, I_51_16, I_51_17, I_51_18, I_51_19, I_51_20, I_51_23, I_51_24, I_51_25, I_51_26, I_51_29, I_51_30, I_51_31, I_51_32, I_51_33, I_51_36, I_51_37, I_51_40, I_51_43, I_51_44, hc, ↓reduceIte, lrF]
  | succ k ih =>
    intro i lo ru hi h1 h2
    have hc : ¬ nI n ≤ nI i := nI_ge (by omega) (by omega)
    rw [I_51_7]
    by_cases hb : bt x i = true
    · have hm : (if nI lo < nI (ru + 1) then nI (ru + 1) else nI lo) = nI (max lo (ru + 1)) := by
        by_cases hl : lo < ru + 1
        · rw [if_pos (nI_lt hl (by omega)), Nat.max_eq_right (by omega)]
        · rw [if_neg (nI_nlt (by omega) (by omega)), Nat.max_eq_left (by omega)]
      simp only [I_51_0, I_51_1, I_51_2, I_51_3, I_51_4, I_51_5, I_51_9, I_51_10, I_51_13, I_51_14, I_51_16, I_51_17, I_51_18, I_51_19, I_51_20, I_51_23, I_51_24, I_51_25, I_51_26, I_51_29, I_51_30, I_51_31, I_51_32, I_51_33, I_51_36, I_51_37, I_51_40, I_51_43, I_51_44, hc, ↓reduceIte, bt_get x (show i < 32 by omega), hb, nI_add, hm, not_true_eq_false]
      rw [ih (i + 1) _ _ (by omega) (by omega) (by omega)]
      simp only [lrF, hb, ↓reduceIte]
    · have hm : (if nI lo < nI 0 then nI 0 else nI lo) = nI lo := by rw [if_neg (nI_nlt (by omega) (by omega))]
      simp only [I_51_0, I_51_1, I_51_2, I_51_3, I_51_4, I_51_5, I_51_9, I_51_10, I_51_13, I_51_14, I_51_16, I_51_17, I_51_18, I_51_19, I_51_20, I_51_23, I_51_24, I_51_25, I_51_26, I_51_29, I_51_30, I_51_31, I_51_32, I_51_33, I_51_36, I_51_37, I_51_40, I_51_43, I_51_44, hc, ↓reduceIte, bt_get x (show i < 32 by omega), hb, ne01, not_false_eq_true, nI_add, hm, Bool.false_eq_true]
      rw [ih (i + 1) _ _ (by omega) (by omega) (by omega)]
      simp only [lrF, hb, ↓reduceIte, Bool.false_eq_true]
theorem c_longestRun (E : ip_E) (x : Int32) (n : Nat) (hn : n ≤ 31) (σ : ip_G) (κ : Option Value → ip_G → Prop) : wp E 51 0 [.int x, .int (nI n), .retAddr 0, .retAddr 0, .retAddr 0] [] σ κ = κ (some (.int (nI (lrun (bt x) n)))) σ := by
  simp only [I_51_0, I_51_1, I_51_2, I_51_3, I_51_4, I_51_5, I_51_9, I_51_10, I_51_13, I_51_14, I_51_16, I_51_17, I_51_18, I_51_19, I_51_20, I_51_23, I_51_24, I_51_25, I_51_26, I_51_29, I_51_30, I_51_31, I_51_32, I_51_33, I_51_36, I_51_37, I_51_40, I_51_43, I_51_44]
  rw [L_longestRun E x n hn σ κ n 0 0 0 (by omega) (by omega) (by omega)]
  rfl
theorem c_isUp (E : ip_E) {σ : ip_G} {d : Nat} {D : Nat → Nat} (hd : isD d) (hC : CD σ d D) (hW : WD D) {q i : Nat} (hq : q < 12) (hi : i < 12) (κ : Option Value → ip_G → Prop) : wp E 50 0 [.ref d, .int (nI q), .int (nI i)] [] σ κ = κ (some (.int (if up D q i = true then nI 1 else nI 0))) σ := by
  obtain ⟨⟨f1, f2, f3, f4, f5, f6⟩, ⟨g1, g2, g3, g4, g5⟩, ⟨l1, l2, l3, l4, l5⟩⟩ := isD_f hd
  obtain ⟨c0, c1, c2, c3, c4, c5⟩ := hC
  obtain ⟨⟨w0, w1, w2, w3, w4, w5, w6, w7⟩, w8, w9, w10, w11, w12⟩ := hW
  have e1 := c3 q hq
  have b1 := w10 q hq
  have e2 := c2 _ b1
  have e3 := c1 i hi
  have b3 := w8 i hi
  simp (disch := first | assumption | omega) only [I_50_0, I_50_1, I_50_4, I_50_5, I_50_8, I_50_9, I_50_10, I_50_11, I_50_12, I_50_15, I_50_16, I_50_17, I_50_18, I_50_19, I_50_20, I_50_21, I_50_24, I_50_25, I_50_28, I_50_29, f3, f4, f2, e1, e2, e3, bt_get, bt_nI]
  unfold up
  cases (D (16 + D (22 + q))).testBit (D (4 + i)) with
  | true => simp only [↓reduceIte, not_true_eq_false]; rw [I_50_29 _ _ _ _ _ _ _ (Or.inr (by decide +kernel))]
  | false => simp only [↓reduceIte, ne01, not_false_eq_true, Bool.false_eq_true]; rw [I_50_29 _ _ _ _ _ _ _ (Or.inl (by decide +kernel))]
