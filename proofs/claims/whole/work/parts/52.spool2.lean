/-! SPOOLS (class): pulled, knotted, and the calls -/
def tn (x : Int32) : Nat := x.toInt.toNat
theorem tn_nI {c : Nat} (h : c < 2147483648) : tn (nI c) = c := by unfold tn; rw [nI_toInt (by omega)]; omega
def inq (x : Int32) (a b : Int) : Bool := decide (a ≤ x.toInt ∧ x.toInt ≤ b)
theorem inq_t {x : Int32} {a b : Nat} (h : inq x a b = true) : ∃ c : Nat, a ≤ c ∧ c ≤ b ∧ x = nI c := by
  have h2 := of_decide_eq_true h
  refine ⟨x.toInt.toNat, by omega, by omega, ?_⟩
  apply Int32.toInt_inj.mp
  have hlt : x.toInt < 2 ^ 31 := Int32.toInt_lt x
  rw [nI_toInt (by omega)]
  omega
theorem inq_f {x : Int32} {a b : Int} (h : ¬ inq x a b = true) : x.toInt < a ∨ b < x.toInt := by
  have : ¬ (a ≤ x.toInt ∧ x.toInt ≤ b) := fun z => h (decide_eq_true z)
  omega
def spU (S : Nat → Nat) (n : Nat) (v : Nat) : Nat → Nat := fun j => if j = 0 then n + 1 else if j = n then v else S j
def plS (S : Nat → Nat) : Nat → Nat → Nat → Nat
  | 0, _ => fun j => if j = 0 then 1 else S j
  | n + 1, l => if l = 0 then (fun j => if j = 0 then n + 2 else S j) else if S (1 + n) ≤ l then plS S n (l - S (1 + n)) else fun j => if j = 0 then n + 2 else if j = 1 + n then S (1 + n) - l else S j
theorem plS_W {S : Nat → Nat} : ∀ (n l : Nat), n ≤ 8 → (∀ i, i < n → 1 ≤ S (1 + i) ∧ S (1 + i) ≤ 99) → WS (plS S n l) ∧ 1 ≤ plS S n l 0 := by
  intro n
  induction n with
  | zero => intro l _ _; exact ⟨⟨by simp [plS], fun i hi => by simp [plS] at hi⟩, by simp [plS]⟩
  | succ n ih =>
    intro l hn h
    unfold plS
    split
    · refine ⟨⟨by simp; omega, fun i hi => ?_⟩, by simp⟩
      have hi2 : i < n + 1 := by simpa using hi
      have := h i hi2
      simpa using this
    · split
      · exact ih _ (by omega) (fun i hi => h i (by omega))
      · next h1 h2 =>
        refine ⟨⟨by simp; omega, fun i hi => ?_⟩, by simp⟩
        have hi2 : i < n + 1 := by simpa using hi
        by_cases e : i = n
        · subst e
          have := h i (by omega)
          simp
          omega
        · have := h i hi2
          simpa [e] using this
theorem im_s (n : Nat) : nI (n + 1) + (-1) = nI n := pk_m1 n
theorem im_0 : nI 0 + (-1) = -1 := by decide +kernel
theorem im_lt0 : (nI 0 + (-1) < 0) := by decide +kernel
theorem sub1 (n : Nat) : nI n - nI 1 = nI n + (-1) := by
  apply Int32.toBitVec_inj.mp
  simp only [Int32.toBitVec_sub, Int32.toBitVec_add]
  rw [BitVec.sub_eq_add_neg]
  congr 1
/-- while threads are taken off: n are there yet, of the first n none has changed -/
def toI (σ σ' : ip_G) (t : Nat) (S : Nat → Nat) (n : Nat) : Prop := σ' (86 + 2 * t) 0 = nI 0 ∧ σ' (86 + 2 * t) 1 = nI n ∧ (∀ i, i < n → σ' (87 + 2 * t) i = nI (S (1 + i))) ∧ ∀ k, k ≠ 86 + 2 * t → k ≠ 87 + 2 * t → σ' k = σ k
theorem L_takeOff (E : ip_E) {σ : ip_G} {t : Nat} (ht : t < 3) {S : Nat → Nat} (y : Int32) (κ : Option Value → ip_G → Prop) : ∀ (n l : Nat) (σ' : ip_G) (v : Value), n ≤ 8 → l ≤ 999 → (∀ i, i < n → 1 ≤ S (1 + i) ∧ S (1 + i) ≤ 99) → toI σ σ' t S n → (∀ σ2, CS1 σ2 t (plS S n l) → (∀ k, k ≠ 86 + 2 * t → k ≠ 87 + 2 * t → σ2 k = σ k) → κ none σ2) → wp E 101 9 [.ref (86 + 2 * t), .int y, .int (nI l), .int (nI n + (-1)), v] [] σ' κ := by
  obtain ⟨f1, f2, f3, f4⟩ := sp_tg ht
  have n1 : ¬ 86 + 2 * t = 87 + 2 * t := by omega
  have n2 : ¬ 87 + 2 * t = 86 + 2 * t := by omega
  intro n
  induction n with
  | zero =>
    intro l σ' v hn hl hb hI hk
    simp (disch := first | assumption | exact bz0 | exact bz1 | exact bzi | omega | decide +kernel) only [I_101_0, I_101_1, I_101_2, I_101_3, I_101_6, I_101_7, I_101_8, I_101_9, I_101_10, I_101_13, I_101_14, I_101_17, I_101_18, I_101_19, I_101_22, I_101_23, I_101_24, I_101_27, I_101_29, I_101_30, I_101_33, I_101_34, I_101_35, I_101_36, I_101_38, I_101_39, I_101_40, I_101_41, I_101_43, I_101_44, I_101_45, I_101_46, I_101_49, I_101_50, I_101_51, I_101_54, I_101_55, I_101_56, I_101_59, I_101_62, I_101_65, im_lt0, ↓reduceIte]
    exact hk σ' ⟨by simp [plS]; exact hI.1, by simp [plS]; exact hI.2.1, fun i hi => by simp [plS] at hi⟩ hI.2.2.2
  | succ n ih =>
    intro l σ' v hn hl hb hI hk
    have a1 : ¬ nI n < 0 := nI_pos (by omega)
    obtain ⟨i0, i1, i2, i3⟩ := hI
    by_cases hl0 : l = 0
    · subst hl0
      have a2 : nI 0 ≤ 0 := by decide +kernel
      simp (disch := first | assumption | exact bz0 | exact bz1 | exact bzi | omega | decide +kernel) only [I_101_0, I_101_1, I_101_2, I_101_3, I_101_6, I_101_7, I_101_8, I_101_9, I_101_10, I_101_13, I_101_14, I_101_17, I_101_18, I_101_19, I_101_22, I_101_23, I_101_24, I_101_27, I_101_29, I_101_30, I_101_33, I_101_34, I_101_35, I_101_36, I_101_38, I_101_39, I_101_40, I_101_41, I_101_43, I_101_44, I_101_45, I_101_46, I_101_49, I_101_50, I_101_51, I_101_54, I_101_55, I_101_56, I_101_59, I_101_62, I_101_65, im_s, a1, a2, ↓reduceIte]
      have hp : plS S (n + 1) 0 = fun j => if j = 0 then n + 2 else S j := by simp [plS]
      rw [hp] at hk
      exact hk σ' ⟨by simpa using i0, by simpa using i1, fun i hi => by simpa using i2 i (by simpa using hi)⟩ i3
    · have a2 : ¬ nI l ≤ 0 := nI_nle (by omega) (by omega)
      have hbn := hb n (by omega)
      have en := i2 n (by omega)
      rw [I_101_9]
      by_cases hle : S (1 + n) ≤ l
      · have hm : (if nI (S (1 + n)) < nI l then nI (S (1 + n)) else nI l) = nI (S (1 + n)) := by
          by_cases h : S (1 + n) < l
          · rw [if_pos (nI_lt h (by omega))]
          · rw [if_neg (nI_nlt (by omega) (by omega)), show l = S (1 + n) by omega]
        simp (disch := first | assumption | exact bz0 | exact bz1 | exact bzi | omega | decide +kernel) only [I_101_0, I_101_1, I_101_2, I_101_3, I_101_6, I_101_7, I_101_8, I_101_10, I_101_13, I_101_14, I_101_17, I_101_18, I_101_19, I_101_22, I_101_23, I_101_24, I_101_27, I_101_29, I_101_30, I_101_33, I_101_34, I_101_35, I_101_36, I_101_38, I_101_39, I_101_40, I_101_41, I_101_43, I_101_44, I_101_45, I_101_46, I_101_49, I_101_50, I_101_51, I_101_54, I_101_55, I_101_56, I_101_59, I_101_62, I_101_65, f2, im_s, a1, a2, ↓reduceIte, en, hm, pk_sub (Nat.le_refl (S (1 + n))), Nat.sub_self, u2_s, ip_nI0, not_true_eq_false, pk_sub hle]
        have hp : plS S (n + 1) l = plS S n (l - S (1 + n)) := by simp [plS, hl0, hle]
        rw [hp] at hk
        refine ih (l - S (1 + n)) _ _ (by omega) (by omega) (fun i hi => hb i (by omega)) ⟨?_, ?_, fun i hi => ?_, fun k h1 h2 => ?_⟩ hk
        · rw [u2_i (by omega), u2_f n1]; exact i0
        · rw [u2_s]
        · rw [u2_f n2, u2_i (by omega)]; exact i2 i (by omega)
        · rw [u2_f h1, u2_f h2]; exact i3 k h1 h2
      · have hm : (if nI (S (1 + n)) < nI l then nI (S (1 + n)) else nI l) = nI l := by rw [if_neg (nI_nlt (by omega) (by omega))]
        have hne : ¬ nI (S (1 + n) - l) = 0 := nI_ne0 (by omega) (by omega)
        have e9 : nI l - nI l = nI 0 := by rw [pk_sub (Nat.le_refl l), Nat.sub_self]
        simp (disch := first | assumption | exact bz0 | exact bz1 | exact bzi | omega | decide +kernel) only [I_101_0, I_101_1, I_101_2, I_101_3, I_101_6, I_101_7, I_101_8, I_101_10, I_101_13, I_101_14, I_101_17, I_101_18, I_101_19, I_101_22, I_101_23, I_101_24, I_101_27, I_101_29, I_101_30, I_101_33, I_101_34, I_101_35, I_101_36, I_101_38, I_101_39, I_101_40, I_101_41, I_101_43, I_101_44, I_101_45, I_101_46, I_101_49, I_101_50, I_101_51, I_101_54, I_101_55, I_101_56, I_101_59, I_101_62, I_101_65, f2, im_s, a1, a2, ↓reduceIte, en, hm, pk_sub (show l ≤ S (1 + n) by omega), u2_s, hne, not_false_eq_true, e9]
        have hp : plS S (n + 1) l = fun j => if j = 0 then n + 2 else if j = 1 + n then S (1 + n) - l else S j := by simp [plS, hl0, hle]
        rw [hp] at hk
        have fin := hk (ip_u2 σ' (87 + 2 * t) n (nI (S (1 + n) - l))) ⟨by rw [u2_f n1]; simpa using i0, by rw [u2_f n1]; simpa using i1, fun i hi => by
          have hi2 : i < n + 1 := by simpa using hi
          by_cases e : i = n
          · subst e; rw [u2_s]; simp
          · rw [u2_i e, i2 i hi2]; simp [e]⟩ (fun k h1 h2 => by rw [u2_f h2]; exact i3 k h1 h2)
        have a3 : nI 0 ≤ 0 := by decide +kernel
        by_cases hn0 : n = 0
        · subst hn0
          simp (disch := first | assumption | exact bz0 | exact bz1 | exact bzi | omega | decide +kernel) only [I_101_0, I_101_1, I_101_2, I_101_3, I_101_6, I_101_7, I_101_8, I_101_9, I_101_10, I_101_13, I_101_14, I_101_17, I_101_18, I_101_19, I_101_22, I_101_23, I_101_24, I_101_27, I_101_29, I_101_30, I_101_33, I_101_34, I_101_35, I_101_36, I_101_38, I_101_39, I_101_40, I_101_41, I_101_43, I_101_44, I_101_45, I_101_46, I_101_49, I_101_50, I_101_51, I_101_54, I_101_55, I_101_56, I_101_59, I_101_62, I_101_65, im_lt0, ↓reduceIte]
          exact fin
        · obtain ⟨m, rfl⟩ : ∃ m, n = m + 1 := ⟨n - 1, by omega⟩
          have a4 : ¬ nI m < 0 := nI_pos (by omega)
          simp (disch := first | assumption | exact bz0 | exact bz1 | exact bzi | omega | decide +kernel) only [I_101_0, I_101_1, I_101_2, I_101_3, I_101_6, I_101_7, I_101_8, I_101_9, I_101_10, I_101_13, I_101_14, I_101_17, I_101_18, I_101_19, I_101_22, I_101_23, I_101_24, I_101_27, I_101_29, I_101_30, I_101_33, I_101_34, I_101_35, I_101_36, I_101_38, I_101_39, I_101_40, I_101_41, I_101_43, I_101_44, I_101_45, I_101_46, I_101_49, I_101_50, I_101_51, I_101_54, I_101_55, I_101_56, I_101_59, I_101_62, I_101_65, im_s, a4, a3, ↓reduceIte]
          exact fin
theorem c_takeOff (E : ip_E) {σ : ip_G} {t : Nat} (ht : t < 3) {S : Nat → Nat} (hC : CS1 σ t S) (hW : WS S) (h0 : 1 ≤ S 0) {l : Nat} (hl : l ≤ 999) (κ : Option Value → ip_G → Prop) (hk : ∀ σ2, CS1 σ2 t (plS S (S 0 - 1) l) → (∀ k, k ≠ 86 + 2 * t → k ≠ 87 + 2 * t → σ2 k = σ k) → κ none σ2) : wp E 101 0 [.ref (86 + 2 * t), .int (nI l), .retAddr 0, .retAddr 0, .retAddr 0] [] σ κ := by
  obtain ⟨f1, f2, f3, f4⟩ := sp_tg ht
  obtain ⟨c0, c1, c2⟩ := hC
  have w := hW.1
  rw [if_neg (by omega)] at c0
  simp (disch := first | assumption | exact bz0 | exact bz1 | exact bzi | omega | decide +kernel) only [I_101_0, I_101_1, I_101_2, I_101_3, I_101_6, I_101_7, I_101_8, I_101_10, I_101_13, I_101_14, I_101_17, I_101_18, I_101_19, I_101_22, I_101_23, I_101_24, I_101_27, I_101_29, I_101_30, I_101_33, I_101_34, I_101_35, I_101_36, I_101_38, I_101_39, I_101_40, I_101_41, I_101_43, I_101_44, I_101_45, I_101_46, I_101_49, I_101_50, I_101_51, I_101_54, I_101_55, I_101_56, I_101_59, I_101_62, I_101_65, c1, sub1]
  exact L_takeOff E ht _ κ (S 0 - 1) l σ _ (by omega) hl (fun i hi => hW.2 i (by omega)) ⟨c0, c1, fun i hi => c2 i (by omega), fun _ _ _ => rfl⟩ hk
def spJ (S : Nat → Nat) : Nat → Nat := fun j => if j = 0 then S 0 - 1 else if j = S 0 - 2 then min (S (S 0 - 1) + S (S 0 - 2)) 99 else S j
theorem spJ_W {S : Nat → Nat} (h : WS S) (h3 : 3 ≤ S 0) : WS (spJ S) := by
  have w := h.1
  refine ⟨by simp [spJ]; omega, fun i hi => ?_⟩
  have hi2 : i + 1 < S 0 - 1 := by simpa [spJ] using hi
  by_cases e : 1 + i = S 0 - 2
  · have h1 := h.2 i (by omega)
    have h2 := h.2 (i + 1) (by omega)
    rw [show 1 + (i + 1) = S 0 - 1 by omega] at h2
    rw [e] at h1
    have : spJ S (1 + i) = min (S (S 0 - 1) + S (S 0 - 2)) 99 := by rw [e]; simp [spJ]; omega
    rw [this]
    omega
  · have : spJ S (1 + i) = S (1 + i) := by simp [spJ, e]
    rw [this]; exact h.2 i (by omega)
theorem nI_min {a b : Nat} (ha : a < 2147483648) (hb : b < 2147483648) : (if nI b < nI a then nI b else nI a) = nI (min a b) := by
  by_cases h : b < a
  · rw [if_pos (nI_lt h (by omega)), Nat.min_eq_right (by omega)]
  · rw [if_neg (nI_nlt (by omega) (by omega)), Nat.min_eq_left (by omega)]
theorem c_join (E : ip_E) {σ : ip_G} {t : Nat} (ht : t < 3) {S : Nat → Nat} (hC : CS1 σ t S) (hW : WS S) (h3 : 3 ≤ S 0) (κ : Option Value → ip_G → Prop) (hk : ∀ σ2, CS1 σ2 t (spJ S) → (∀ k, k ≠ 86 + 2 * t → k ≠ 87 + 2 * t → σ2 k = σ k) → κ none σ2) : wp E 103 0 [.ref (86 + 2 * t), .retAddr 0] [] σ κ := by
  obtain ⟨f1, f2, f3, f4⟩ := sp_tg ht
  obtain ⟨c0, c1, c2⟩ := hC
  have w := hW.1
  have n1 : ¬ 86 + 2 * t = 87 + 2 * t := by omega
  have n2 : ¬ 87 + 2 * t = 86 + 2 * t := by omega
  have e1 := c2 (S 0 - 1 - 1) (by omega)
  have e2 := c2 (S 0 - 1 - 2) (by omega)
  have b1 := hW.2 (S 0 - 1 - 1) (by omega)
  have b2 := hW.2 (S 0 - 1 - 2) (by omega)
  rw [show 1 + (S 0 - 1 - 1) = S 0 - 1 by omega] at e1 b1
  rw [show 1 + (S 0 - 1 - 2) = S 0 - 2 by omega] at e2 b2
  simp (disch := first | assumption | exact bz0 | exact bz1 | exact bzi | omega | decide +kernel) only [I_103_0, I_103_1, I_103_4, I_103_5, I_103_8, I_103_9, I_103_10, I_103_11, I_103_12, I_103_15, I_103_16, I_103_19, I_103_20, I_103_21, I_103_22, I_103_23, I_103_24, I_103_25, I_103_26, I_103_29, I_103_30, I_103_31, I_103_34, I_103_35, I_103_38, I_103_39, I_103_42, I_103_43, I_103_44, I_103_45, I_103_47, I_103_50, I_103_51, f2, c1, pk_sub (show 1 ≤ S 0 - 1 by omega), pk_sub (show 2 ≤ S 0 - 1 by omega), e1, e2, nI_add, u2_s, pk_sub (show 1 ≤ S 0 - 1 - 1 by omega), nI_min]
  refine hk _ ⟨?_, ?_, fun i hi => ?_⟩ (fun k h1 h2 => by rw [u2_f h2, u2_f h1])
  · have z1 : ¬ S 0 = 0 := by omega
    have z2 : ¬ spJ S 0 = 0 := by simp [spJ]; omega
    rw [u2_f n1, u2_i (by omega), c0, if_neg z1, if_neg z2]
  · rw [u2_f n1, u2_s]; simp [spJ]
  · have hi2 : i + 1 < S 0 - 1 := by simpa [spJ] using hi
    by_cases e : i = S 0 - 1 - 1 - 1
    · subst e
      rw [u2_s]
      have : spJ S (1 + (S 0 - 1 - 1 - 1)) = min (S (S 0 - 1) + S (S 0 - 2)) 99 := by rw [show 1 + (S 0 - 1 - 1 - 1) = S 0 - 2 by omega]; simp [spJ]; omega
      rw [this]
    · rw [u2_i e, u2_f n2, c2 i (by omega)]
      have : spJ S (1 + i) = S (1 + i) := by simp [spJ]; omega
      rw [this]
