/-! SPOOLS: S 0 = 0: missing, n + 1: n threads; S (1 + i): the length of thread i, from the lowest on -/
def WS (S : Nat → Nat) : Prop := S 0 ≤ 9 ∧ ∀ i, i + 1 < S 0 → 1 ≤ S (1 + i) ∧ S (1 + i) ≤ 99
def CS1 (σ : ip_G) (t : Nat) (S : Nat → Nat) : Prop := σ (86 + 2 * t) 0 = (if S 0 = 0 then nI 1 else nI 0) ∧ σ (86 + 2 * t) 1 = nI (S 0 - 1) ∧ ∀ i, i + 1 < S 0 → σ (87 + 2 * t) i = nI (S (1 + i))
def MS1 (σ : ip_G) (t : Nat) (S : Nat → Nat) : Prop := σ 97 t = (if S 0 = 0 then -1 else nI (S 0 - 1)) ∧ ∀ i, i + 1 < S 0 → σ 98 (8 * t + i) = nI (S (1 + i))
def CS (σ : ip_G) (Z : Nat → Nat → Nat) : Prop := ∀ t, t < 3 → CS1 σ t (Z t)
def MS (σ : ip_G) (Z : Nat → Nat → Nat) : Prop := ∀ t, t < 3 → MS1 σ t (Z t)
def WZ (Z : Nat → Nat → Nat) : Prop := ∀ t, t < 3 → WS (Z t)
def zU (Z : Nat → Nat → Nat) (t : Nat) (S : Nat → Nat) : Nat → Nat → Nat := fun a => if a = t then S else Z a
theorem zU_s (Z : Nat → Nat → Nat) (t : Nat) (S : Nat → Nat) : zU Z t S t = S := by simp [zU]
theorem zU_n {Z : Nat → Nat → Nat} {t a : Nat} {S : Nat → Nat} (h : a ≠ t) : zU Z t S a = Z a := by simp [zU, h]
theorem WZ_U {Z : Nat → Nat → Nat} {t : Nat} {S : Nat → Nat} (h : WZ Z) (hS : WS S) : WZ (zU Z t S) := fun a ha => by
  by_cases e : a = t
  · subst e; rw [zU_s]; exact hS
  · rw [zU_n e]; exact h a ha
theorem CS_U {σ σ' : ip_G} {Z : Nat → Nat → Nat} {t : Nat} {S : Nat → Nat} (h : CS σ Z) (hS : CS1 σ' t S) (hf : ∀ k, k ≠ 86 + 2 * t → k ≠ 87 + 2 * t → σ' k = σ k) : CS σ' (zU Z t S) := fun a ha => by
  by_cases e : a = t
  · subst e; rw [zU_s]; exact hS
  · rw [zU_n e]
    have h1 := h a ha
    unfold CS1 at *
    rw [hf (86 + 2 * a) (by omega) (by omega), hf (87 + 2 * a) (by omega) (by omega)]
    exact h1
theorem MS_U {σ σ' : ip_G} {Z : Nat → Nat → Nat} {t : Nat} {S : Nat → Nat} (hW : WZ Z) (ht : t < 3) (h : MS σ Z) (hS : MS1 σ' t S) (hf : ∀ a, a ≠ t → σ' 97 a = σ 97 a) (hg : ∀ a i, a < 3 → a ≠ t → i < 8 → σ' 98 (8 * a + i) = σ 98 (8 * a + i)) : MS σ' (zU Z t S) := fun a ha => by
  by_cases e : a = t
  · subst e; rw [zU_s]; exact hS
  · rw [zU_n e]
    have h1 := h a ha
    have w := (hW a ha).1
    refine ⟨by rw [hf a e]; exact h1.1, fun i hi => by rw [hg a i ha e (by omega)]; exact h1.2 i hi⟩
theorem sp_tg {t : Nat} (h : t < 3) : ip_tg (86 + 2 * t) = some 5 ∧ ip_rr (86 + 2 * t) 2 = 87 + 2 * t ∧ ip_tg (87 + 2 * t) = some 100 ∧ ip_ln (87 + 2 * t) = 8 := (by decide +kernel : ∀ t, t < 3 → ip_tg (86 + 2 * t) = some 5 ∧ ip_rr (86 + 2 * t) 2 = 87 + 2 * t ∧ ip_tg (87 + 2 * t) = some 100 ∧ ip_ln (87 + 2 * t) = 8) t h
theorem c_isSpool (E : ip_E) (x : Int32) (σ : ip_G) (κ : Option Value → ip_G → Prop) : wp E 95 0 [.int x] [] σ κ = κ (some (.int (nI (b2n (inr x 3))))) σ := by
  by_cases h : inr x 3 = true
  · obtain ⟨c, hc, rfl⟩ := inr_t h
    have a1 : ¬ nI c < 0 := nI_pos (by omega)
    have a2 : ¬ nI 3 ≤ nI c := nI_ge (by omega) (by omega)
    simp (disch := first | assumption | exact bz0 | exact bz1 | exact bzi | omega | decide +kernel) only [I_95_0, I_95_1, I_95_4, I_95_5, I_95_6, I_95_9, I_95_10, I_95_13, I_95_14, a1, a2, ↓reduceIte, h, b2n]
  · have hb : inr x 3 = false := by simpa using h
    rcases inr_f h with h1 | h1
    · have a1 : x < 0 := lt0_iff.mpr h1
      simp (disch := first | assumption | exact bz0 | exact bz1 | exact bzi | omega | decide +kernel) only [I_95_0, I_95_1, I_95_4, I_95_5, I_95_6, I_95_9, I_95_10, I_95_13, I_95_14, a1, ↓reduceIte, hb, b2n, Bool.false_eq_true]
    · have a1 : ¬ x < 0 := fun z => by have := lt0_iff.mp z; omega
      have a2 : nI 3 ≤ x := (gen_iff (by omega)).mpr (by omega)
      simp (disch := first | assumption | exact bz0 | exact bz1 | exact bzi | omega | decide +kernel) only [I_95_0, I_95_1, I_95_4, I_95_5, I_95_6, I_95_9, I_95_10, I_95_13, I_95_14, a1, a2, ↓reduceIte, hb, b2n, Bool.false_eq_true]
theorem lk2 : (2 : Int64).toInt = 2 := by decide +kernel
theorem m_isSpool (E : ip_E) (x : Int32) (σ : ip_G) (κ : Option Value → ip_G → Prop) : wp E 181 0 [.int x] [] σ κ = κ (some (.int (nI (b2n (inr x 3))))) σ := by
  have hd : decide ((0 : Int) ≤ x.toInt ∧ x.toInt ≤ 2) = inr x 3 := by
    unfold inr
    apply decide_eq_decide.mpr
    omega
  have hb : nI (b2n (inr x 3)) = 0 ∨ nI (b2n (inr x 3)) = 1 := by cases inr x 3 <;> decide +kernel
  simp (disch := first | assumption | exact bz0 | exact bz1 | exact bzi | omega | decide +kernel) only [I_181_0, I_181_1, I_181_2, I_181_3, I_181_6, I_181_9, m_in, i2l_toInt, l0, lk2, hd, Option.toList_some, List.cons_append, List.nil_append]
/-- answers -/
def sp1 : Nat → Nat := fun j => if j = 0 then 1 else 0
def sp0 : Nat → Nat := fun _ => 0
theorem sp1_W : WS sp1 := ⟨by decide, fun i hi => by simp [sp1] at hi⟩
theorem sp0_W : WS sp0 := ⟨by decide, fun i hi => by simp [sp0] at hi⟩
theorem c_makeNew (E : ip_E) {σ : ip_G} {t : Nat} (ht : t < 3) (κ : Option Value → ip_G → Prop) (hk : ∀ σ', CS1 σ' t sp1 → (∀ k, k ≠ 86 + 2 * t → σ' k = σ k) → κ none σ') : wp E 96 0 [.ref (86 + 2 * t)] [] σ κ := by
  obtain ⟨f1, f2, f3, f4⟩ := sp_tg ht
  simp (disch := first | assumption | exact bz0 | exact bz1 | exact bzi | omega | decide +kernel) only [I_96_0, I_96_1, I_96_2, I_96_5, I_96_6, I_96_7, I_96_10]
  exact hk _ ⟨by simp [ip_u2, sp1], by simp [ip_u2, sp1], fun i hi => by simp [sp1] at hi⟩ (fun k h => by rw [u2_f h, u2_f h])
theorem c_takeAway (E : ip_E) {σ : ip_G} {t : Nat} (ht : t < 3) (κ : Option Value → ip_G → Prop) (hk : ∀ σ', CS1 σ' t sp0 → (∀ k, k ≠ 86 + 2 * t → σ' k = σ k) → κ none σ') : wp E 45 0 [.ref (86 + 2 * t)] [] σ κ := by
  obtain ⟨f1, f2, f3, f4⟩ := sp_tg ht
  simp (disch := first | assumption | exact bz0 | exact bz1 | exact bzi | omega | decide +kernel) only [I_45_0, I_45_1, I_45_2, I_45_5, I_45_6, I_45_7, I_45_10]
  exact hk _ ⟨by simp [ip_u2, sp0], by simp [ip_u2, sp0], fun i hi => by simp [sp0] at hi⟩ (fun k h => by rw [u2_f h, u2_f h])
/-- a thread more -/
def spW (S : Nat → Nat) (v : Nat) : Nat → Nat := fun j => if j = 0 then S 0 + 1 else if j = S 0 then v else S j
theorem spW_W {S : Nat → Nat} {v : Nat} (h : WS S) (h0 : 1 ≤ S 0) (h8 : S 0 ≤ 8) (hv : 1 ≤ v ∧ v ≤ 99) : WS (spW S v) := by
  refine ⟨by simp [spW]; omega, fun i hi => ?_⟩
  have hi2 : i < S 0 := by simpa [spW] using hi
  by_cases e : 1 + i = S 0
  · have : spW S v (1 + i) = v := by simp [spW, e]; omega
    rw [this]; exact hv
  · have : spW S v (1 + i) = S (1 + i) := by simp [spW, e]
    rw [this]; exact h.2 i (by omega)
theorem c_windOver (E : ip_E) {σ : ip_G} {t : Nat} (ht : t < 3) {S : Nat → Nat} (hC : CS1 σ t S) (h0 : 1 ≤ S 0) (h8 : S 0 ≤ 8) (v : Nat) (κ : Option Value → ip_G → Prop) (hk : ∀ σ', CS1 σ' t (spW S v) → (∀ k, k ≠ 86 + 2 * t → k ≠ 87 + 2 * t → σ' k = σ k) → κ none σ') : wp E 98 0 [.ref (86 + 2 * t), .int (nI v)] [] σ κ := by
  obtain ⟨f1, f2, f3, f4⟩ := sp_tg ht
  obtain ⟨c0, c1, c2⟩ := hC
  have a1 : ¬ nI 8 ≤ nI (S 0 - 1) := nI_ge (by omega) (by omega)
  have n1 : ¬ 86 + 2 * t = 87 + 2 * t := by omega
  simp (disch := first | assumption | exact bz0 | exact bz1 | exact bzi | omega | decide +kernel) only [I_98_0, I_98_1, I_98_4, I_98_6, I_98_9, I_98_10, I_98_13, I_98_14, I_98_17, I_98_18, I_98_19, I_98_20, I_98_21, I_98_24, I_98_25, I_98_26, I_98_29, f2, c1, a1, ↓reduceIte, u2_k, nI_add]
  refine hk _ ⟨?_, ?_, fun i hi => ?_⟩ (fun k h1 h2 => by rw [u2_f h1, u2_f h2])
  · rw [u2_i (by omega), u2_f n1, c0]
    have z1 : ¬ S 0 = 0 := by omega
    have z2 : ¬ spW S v 0 = 0 := by simp [spW]
    rw [if_neg z1, if_neg z2]
  · rw [u2_s]
    have : spW S v 0 - 1 = S 0 - 1 + 1 := by simp [spW]; omega
    rw [this]
  · have hi2 : i < S 0 := by simpa [spW] using hi
    rw [u2_f (fun z => n1 z.symm)]
    by_cases e : i = S 0 - 1
    · subst e
      rw [u2_s]
      have : spW S v (1 + (S 0 - 1)) = v := by
        rw [show 1 + (S 0 - 1) = S 0 by omega]
        simp [spW]; omega
      rw [this]
    · rw [u2_i e, c2 i (by omega)]
      have : spW S v (1 + i) = S (1 + i) := by simp [spW]; omega
      rw [this]
theorem L_allLengths (E : ip_E) {σ : ip_G} {t : Nat} (ht : t < 3) {S : Nat → Nat} (hC : CS1 σ t S) (hW : WS S) (κ : Option Value → ip_G → Prop) : ∀ (k i : Nat), i + k = S 0 - 1 → wp E 100 4 [.ref (86 + 2 * t), .int (nI (sm (fun j => S (1 + j)) i)), .int (nI i)] [] σ κ = κ (some (.int (nI (sm (fun j => S (1 + j)) (S 0 - 1))))) σ := by
  obtain ⟨f1, f2, f3, f4⟩ := sp_tg ht
  obtain ⟨c0, c1, c2⟩ := hC
  have w := hW.1
  intro k
  induction k with
  | zero =>
    intro i hi
    have hi2 : i = S 0 - 1 := by omega
    have hc : nI (S 0 - 1) ≤ nI i := nI_le (by omega) (by omega)
    simp (disch := first | assumption | exact bz0 | exact bz1 | exact bzi | omega | decide +kernel) only [I_100_0, I_100_1, I_100_2, I_100_3, I_100_4, I_100_5, I_100_6, I_100_9, I_100_12, I_100_13, I_100_14, I_100_17, I_100_18, I_100_19, I_100_20, I_100_21, I_100_24, I_100_27, I_100_28, c1, hc, ↓reduceIte]
    rw [hi2]
  | succ k ih =>
    intro i hi
    have hc : ¬ nI (S 0 - 1) ≤ nI i := nI_ge (by omega) (by omega)
    rw [I_100_4]
    simp (disch := first | assumption | exact bz0 | exact bz1 | exact bzi | omega | decide +kernel) only [I_100_0, I_100_1, I_100_2, I_100_3, I_100_5, I_100_6, I_100_9, I_100_12, I_100_13, I_100_14, I_100_17, I_100_18, I_100_19, I_100_20, I_100_21, I_100_24, I_100_27, I_100_28, c1, f2, hc, ↓reduceIte, c2 i (by omega), nI_add]
    exact ih (i + 1) (by omega)
theorem c_allLengths (E : ip_E) {σ : ip_G} {t : Nat} (ht : t < 3) {S : Nat → Nat} (hC : CS1 σ t S) (hW : WS S) (κ : Option Value → ip_G → Prop) : wp E 100 0 [.ref (86 + 2 * t), .retAddr 0, .retAddr 0] [] σ κ = κ (some (.int (nI (sm (fun j => S (1 + j)) (S 0 - 1))))) σ := by
  simp (disch := first | assumption | exact bz0 | exact bz1 | exact bzi | omega | decide +kernel) only [I_100_0, I_100_1, I_100_2, I_100_3, I_100_5, I_100_6, I_100_9, I_100_12, I_100_13, I_100_14, I_100_17, I_100_18, I_100_19, I_100_20, I_100_21, I_100_24, I_100_27, I_100_28]
  exact L_allLengths E ht hC hW κ (S 0 - 1) 0 (by omega)
theorem L_longest (E : ip_E) {σ : ip_G} {t : Nat} (ht : t < 3) {S : Nat → Nat} (hC : CS1 σ t S) (hW : WS S) (κ : Option Value → ip_G → Prop) : ∀ (k i : Nat), i + k = S 0 - 1 → wp E 106 4 [.ref (86 + 2 * t), .int (nI (mx (fun j => S (1 + j)) i)), .int (nI i)] [] σ κ = κ (some (.int (nI (mx (fun j => S (1 + j)) (S 0 - 1))))) σ := by
  obtain ⟨f1, f2, f3, f4⟩ := sp_tg ht
  obtain ⟨c0, c1, c2⟩ := hC
  have w := hW.1
  intro k
  induction k with
  | zero =>
    intro i hi
    have hi2 : i = S 0 - 1 := by omega
    have hc : nI (S 0 - 1) ≤ nI i := nI_le (by omega) (by omega)
    simp (disch := first | assumption | exact bz0 | exact bz1 | exact bzi | omega | decide +kernel) only [I_106_0, I_106_1, I_106_2, I_106_3, I_106_4, I_106_5, I_106_6, I_106_9, I_106_12, I_106_13, I_106_14, I_106_17, I_106_18, I_106_19, I_106_22, I_106_23, I_106_26, I_106_29, I_106_30, c1, hc, ↓reduceIte]
    rw [hi2]
  | succ k ih =>
    intro i hi
    have hc : ¬ nI (S 0 - 1) ≤ nI i := nI_ge (by omega) (by omega)
    have b1 : mx (fun j => S (1 + j)) i ≤ 99 := mx_le i (fun j hj => (hW.2 j (by omega)).2)
    have b2 := (hW.2 i (by omega)).2
    rw [I_106_4]
    simp (disch := first | assumption | exact bz0 | exact bz1 | exact bzi | omega | decide +kernel) only [I_106_0, I_106_1, I_106_2, I_106_3, I_106_5, I_106_6, I_106_9, I_106_12, I_106_13, I_106_14, I_106_17, I_106_18, I_106_19, I_106_22, I_106_23, I_106_26, I_106_29, I_106_30, c1, f2, hc, ↓reduceIte, c2 i (by omega), nI_add, nI_max]
    exact ih (i + 1) (by omega)
theorem c_longest (E : ip_E) {σ : ip_G} {t : Nat} (ht : t < 3) {S : Nat → Nat} (hC : CS1 σ t S) (hW : WS S) (κ : Option Value → ip_G → Prop) : wp E 106 0 [.ref (86 + 2 * t), .retAddr 0, .retAddr 0] [] σ κ = κ (some (.int (nI (mx (fun j => S (1 + j)) (S 0 - 1))))) σ := by
  simp (disch := first | assumption | exact bz0 | exact bz1 | exact bzi | omega | decide +kernel) only [I_106_0, I_106_1, I_106_2, I_106_3, I_106_5, I_106_6, I_106_9, I_106_12, I_106_13, I_106_14, I_106_17, I_106_18, I_106_19, I_106_22, I_106_23, I_106_26, I_106_29, I_106_30]
  exact L_longest E ht hC hW κ (S 0 - 1) 0 (by omega)
/-- how many are longer than the one below, among the first n -/
def lgB (S : Nat → Nat) (j : Nat) : Bool := decide (1 ≤ j ∧ S j < S (1 + j))
theorem L_longer (E : ip_E) {σ : ip_G} {t : Nat} (ht : t < 3) {S : Nat → Nat} (hC : CS1 σ t S) (hW : WS S) (κ : Option Value → ip_G → Prop) : ∀ (k i : Nat), 1 ≤ i → i + k = S 0 - 1 → wp E 107 4 [.ref (86 + 2 * t), .int (nI (cnt (lgB S) i)), .int (nI i)] [] σ κ = κ (some (.int (nI (cnt (lgB S) (S 0 - 1))))) σ := by
  obtain ⟨f1, f2, f3, f4⟩ := sp_tg ht
  obtain ⟨c0, c1, c2⟩ := hC
  have w := hW.1
  intro k
  induction k with
  | zero =>
    intro i h1 hi
    have hi2 : i = S 0 - 1 := by omega
    have hc : nI (S 0 - 1) ≤ nI i := nI_le (by omega) (by omega)
    simp (disch := first | assumption | exact bz0 | exact bz1 | exact bzi | omega | decide +kernel) only [I_107_0, I_107_1, I_107_2, I_107_3, I_107_4, I_107_5, I_107_6, I_107_9, I_107_12, I_107_13, I_107_16, I_107_17, I_107_18, I_107_19, I_107_22, I_107_23, I_107_24, I_107_25, I_107_26, I_107_29, I_107_32, I_107_35, I_107_38, I_107_39, c1, hc, ↓reduceIte]
    rw [hi2]
  | succ k ih =>
    intro i h1 hi
    have hc : ¬ nI (S 0 - 1) ≤ nI i := nI_ge (by omega) (by omega)
    have b1 := (hW.2 i (by omega)).2
    have b2 := (hW.2 (i - 1) (by omega)).2
    have e2 := c2 (i - 1) (by omega)
    rw [show 1 + (i - 1) = i by omega] at e2 b2
    rw [I_107_4]
    simp (disch := first | assumption | exact bz0 | exact bz1 | exact bzi | omega | decide +kernel) only [I_107_0, I_107_1, I_107_2, I_107_3, I_107_5, I_107_6, I_107_9, I_107_12, I_107_13, I_107_16, I_107_17, I_107_18, I_107_19, I_107_22, I_107_23, I_107_24, I_107_25, I_107_26, I_107_29, I_107_32, I_107_35, I_107_38, I_107_39, c1, f2, hc, ↓reduceIte, c2 i (by omega), e2, pk_sub h1, nI_leI]
    have hs : cnt (lgB S) (i + 1) = cnt (lgB S) i + b2n (lgB S i) := rfl
    have ih1 := ih (i + 1) (by omega) (by omega)
    rw [hs] at ih1
    by_cases h : S (1 + i) ≤ S i
    · have hb : lgB S i = false := decide_eq_false (by omega)
      rw [hb] at ih1
      simp (disch := first | assumption | exact bz0 | exact bz1 | exact bzi | omega | decide +kernel) only [I_107_0, I_107_1, I_107_2, I_107_3, I_107_5, I_107_6, I_107_9, I_107_12, I_107_13, I_107_16, I_107_17, I_107_18, I_107_19, I_107_22, I_107_23, I_107_24, I_107_25, I_107_26, I_107_29, I_107_32, I_107_35, I_107_38, I_107_39, h, ↓reduceIte, nI_add]
      exact ih1
    · have hb : lgB S i = true := decide_eq_true (by omega)
      rw [hb] at ih1
      simp (disch := first | assumption | exact bz0 | exact bz1 | exact bzi | omega | decide +kernel) only [I_107_0, I_107_1, I_107_2, I_107_3, I_107_5, I_107_6, I_107_9, I_107_12, I_107_13, I_107_16, I_107_17, I_107_18, I_107_19, I_107_22, I_107_23, I_107_24, I_107_25, I_107_26, I_107_29, I_107_32, I_107_35, I_107_38, I_107_39, h, ↓reduceIte, nI_add]
      exact ih1
theorem c_longer (E : ip_E) {σ : ip_G} {t : Nat} (ht : t < 3) {S : Nat → Nat} (hC : CS1 σ t S) (hW : WS S) (κ : Option Value → ip_G → Prop) : wp E 107 0 [.ref (86 + 2 * t), .retAddr 0, .retAddr 0] [] σ κ = κ (some (.int (nI (cnt (lgB S) (S 0 - 1))))) σ := by
  simp (disch := first | assumption | exact bz0 | exact bz1 | exact bzi | omega | decide +kernel) only [I_107_0, I_107_1, I_107_2, I_107_3, I_107_5, I_107_6, I_107_9, I_107_12, I_107_13, I_107_16, I_107_17, I_107_18, I_107_19, I_107_22, I_107_23, I_107_24, I_107_25, I_107_26, I_107_29, I_107_32, I_107_35, I_107_38, I_107_39]
  by_cases h : 1 ≤ S 0 - 1
  · have hs : cnt (lgB S) 1 = 0 := by simp [cnt, sm, lgB, b2n]
    have := L_longer E ht hC hW κ (S 0 - 1 - 1) 1 (by omega) (by omega)
    rw [hs] at this
    exact this
  · obtain ⟨f1, f2, f3, f4⟩ := sp_tg ht
    obtain ⟨c0, c1, c2⟩ := hC
    have h0 : S 0 - 1 = 0 := by omega
    have hc : nI (S 0 - 1) ≤ nI 1 := nI_le (by omega) (by omega)
    simp (disch := first | assumption | exact bz0 | exact bz1 | exact bzi | omega | decide +kernel) only [I_107_0, I_107_1, I_107_2, I_107_3, I_107_4, I_107_5, I_107_6, I_107_9, I_107_12, I_107_13, I_107_16, I_107_17, I_107_18, I_107_19, I_107_22, I_107_23, I_107_24, I_107_25, I_107_26, I_107_29, I_107_32, I_107_35, I_107_38, I_107_39, c1, hc, ↓reduceIte]
    rw [h0]
    rfl
theorem c_topmost (E : ip_E) {σ : ip_G} {t : Nat} (ht : t < 3) {S : Nat → Nat} (hC : CS1 σ t S) (hW : WS S) (h2 : 2 ≤ S 0) (κ : Option Value → ip_G → Prop) : wp E 104 0 [.ref (86 + 2 * t)] [] σ κ = κ (some (.int (nI (S (S 0 - 1))))) σ := by
  obtain ⟨f1, f2, f3, f4⟩ := sp_tg ht
  obtain ⟨c0, c1, c2⟩ := hC
  have w := hW.1
  have a1 : ¬ nI (S 0 - 1) ≤ 0 := nI_nle (by omega) (by omega)
  have e2 := c2 (S 0 - 1 - 1) (by omega)
  rw [show 1 + (S 0 - 1 - 1) = S 0 - 1 by omega] at e2
  simp (disch := first | assumption | exact bz0 | exact bz1 | exact bzi | omega | decide +kernel) only [I_104_0, I_104_1, I_104_4, I_104_7, I_104_8, I_104_11, I_104_12, I_104_15, I_104_16, I_104_17, I_104_18, I_104_21, I_104_22, f2, c1, a1, ↓reduceIte, pk_sub (show 1 ≤ S 0 - 1 by omega), e2]
