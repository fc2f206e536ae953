/-! THE TEXT's letters: write, erase (class and reference) -/
theorem lgc_lt (x y : Int64) : lg_cmp x y < 0 ↔ x < y := by
  unfold lg_cmp
  simp only [gt_iff_lt, Int64.lt_iff_toInt_lt, ← Int64.toInt_inj]
  split
  · exact ⟨fun z => absurd z (by decide), fun z => by omega⟩
  · split
    · exact ⟨fun z => absurd z (by decide), fun z => by omega⟩
    · exact ⟨fun _ => by omega, fun _ => by decide⟩
theorem lgc_gt (x y : Int64) : 0 < lg_cmp x y ↔ y < x := by
  unfold lg_cmp
  simp only [gt_iff_lt, Int64.lt_iff_toInt_lt, ← Int64.toInt_inj]
  split
  · exact ⟨fun _ => by omega, fun _ => by decide⟩
  · split
    · exact ⟨fun z => absurd z (by decide), fun z => by omega⟩
    · exact ⟨fun z => absurd z (by decide), fun z => by omega⟩
theorem m_in (E : ip_E) (v a b : Int64) (σ : ip_G) (κ : Option Value → ip_G → Prop) : wp E 125 0 [.long v, .retAddr 0, .long a, .retAddr 0, .long b, .retAddr 0] [] σ κ = κ (some (.int (nI (b2n (decide (a.toInt ≤ v.toInt ∧ v.toInt ≤ b.toInt)))))) σ := by
  simp (disch := first | assumption | exact bz0 | exact bz1 | exact bzi | omega | decide +kernel) only [I_125_0, I_125_1, I_125_2, I_125_3, I_125_6, I_125_7, I_125_9, I_125_10, I_125_13, I_125_14, I_125_17, I_125_18, lgc_lt, lgc_gt]
  by_cases h1 : v < a
  · have h1' := Int64.lt_iff_toInt_lt.mp h1
    have hd : decide (a.toInt ≤ v.toInt ∧ v.toInt ≤ b.toInt) = false := decide_eq_false (by omega)
    simp (disch := first | assumption | exact bz0 | exact bz1 | exact bzi | omega | decide +kernel) only [I_125_0, I_125_1, I_125_2, I_125_3, I_125_6, I_125_7, I_125_9, I_125_10, I_125_13, I_125_14, I_125_17, I_125_18, h1, ↓reduceIte, hd, b2n, Bool.false_eq_true]
  · have h1' : ¬ v.toInt < a.toInt := fun z => h1 (Int64.lt_iff_toInt_lt.mpr z)
    by_cases h2 : b < v
    · have h2' := Int64.lt_iff_toInt_lt.mp h2
      have hd : decide (a.toInt ≤ v.toInt ∧ v.toInt ≤ b.toInt) = false := decide_eq_false (by omega)
      simp (disch := first | assumption | exact bz0 | exact bz1 | exact bzi | omega | decide +kernel) only [I_125_0, I_125_1, I_125_2, I_125_3, I_125_6, I_125_7, I_125_9, I_125_10, I_125_13, I_125_14, I_125_17, I_125_18, h1, h2, ↓reduceIte, hd, b2n, Bool.false_eq_true]
    · have h2' : ¬ b.toInt < v.toInt := fun z => h2 (Int64.lt_iff_toInt_lt.mpr z)
      have hd : decide (a.toInt ≤ v.toInt ∧ v.toInt ≤ b.toInt) = true := decide_eq_true (by omega)
      simp (disch := first | assumption | exact bz0 | exact bz1 | exact bzi | omega | decide +kernel) only [I_125_0, I_125_1, I_125_2, I_125_3, I_125_6, I_125_7, I_125_9, I_125_10, I_125_13, I_125_14, I_125_17, I_125_18, h1, h2, ↓reduceIte, hd, b2n]
theorem i2l_toInt (x : Int32) : x.toInt64.toInt = x.toInt := Int32.toInt_toInt64 x
theorem l0 : (Int64.ofNat 0).toInt = 0 := by decide +kernel
theorem l1 : (Int64.ofNat 1).toInt = 1 := by decide +kernel
theorem lk255 : (255 : Int64).toInt = 255 := by decide +kernel
def CT (σ : ip_G) (n : Nat) (T : Nat → Nat) : Prop := σ 68 1 = nI n ∧ n ≤ 200 ∧ ∀ i, i < n → σ 69 i = nI (T i) ∧ T i < 256
def MT (σ : ip_G) (n : Nat) (T : Nat → Nat) : Prop := σ 92 7 = nI n ∧ n ≤ 200 ∧ ∀ i, i < n → σ 96 i = nI (T i) ∧ T i < 256
def wrR (x : Int32) (n : Nat) : Int32 := if inr x 256 = true then (if n < 200 then nI (n + 1) else -5) else -3
def wrN (x : Int32) (n : Nat) : Nat := if inr x 256 = true ∧ n < 200 then n + 1 else n
def wrT (x : Int32) (n : Nat) (T : Nat → Nat) : Nat → Nat := if inr x 256 = true ∧ n < 200 then fun i => if i = n then x.toInt.toNat else T i else T
theorem inr_f {x : Int32} {n : Nat} (h : ¬ inr x n = true) : x.toInt < 0 ∨ (n : Int) ≤ x.toInt := by
  have : ¬ (0 ≤ x.toInt ∧ x.toInt < (n : Int)) := fun z => h (decide_eq_true z)
  omega
theorem c_write (E : ip_E) {σ : ip_G} {n : Nat} {T : Nat → Nat} (x : Int32) (hT : CT σ n T) (κ : Option Value → ip_G → Prop) (hk : ∀ σ', CT σ' (wrN x n) (wrT x n T) → (∀ k, k ≠ 68 → k ≠ 69 → σ' k = σ k) → (∀ j, j ≠ 1 → σ' 68 j = σ 68 j) → κ (some (.int (wrR x n))) σ') : wp E 9 0 [.ref 0, .int x] [] σ κ := by
  obtain ⟨e1, hn, hl⟩ := hT
  by_cases h : inr x 256 = true
  · obtain ⟨c, hc, rfl⟩ := inr_t h
    have a1 : ¬ nI c < 0 := nI_pos (by omega)
    have a2 : nI c ≤ nI 255 := nI_le (by omega) (by omega)
    by_cases hf : n < 200
    · have a3 : nI n < nI 200 := nI_lt hf (by omega)
      simp (disch := first | assumption | exact bz0 | exact bz1 | exact bzi | omega | decide +kernel) only [I_9_0, I_9_1, I_9_4, I_9_5, I_9_8, I_9_11, I_9_13, I_9_14, I_9_15, I_9_18, I_9_21, I_9_24, I_9_27, I_9_29, I_9_30, I_9_31, I_9_34, I_9_37, I_9_38, I_9_41, I_9_44, I_9_45, I_9_46, I_9_47, I_9_50, I_9_51, I_9_54, I_9_55, I_9_56, I_9_59, I_9_60, I_9_63, I_9_66, rr_0_0, rr_0_1, rr_0_2, rr_0_3, rr_0_4, rr_0_5, rr_0_6, rr_0_7, rr_0_8, rr_1_0, rr_1_1, rr_1_2, rr_1_3, rr_2_4, rr_2_5, rr_2_6, rr_2_7, rr_2_8, rr_13_0, rr_15_4, rr_15_5, rr_15_6, rr_15_7, rr_15_8, rr_21_4, rr_21_5, rr_21_6, rr_21_7, rr_21_8, rr_27_4, rr_27_5, rr_27_6, rr_27_7, rr_27_8, rr_33_4, rr_33_5, rr_33_6, rr_33_7, rr_33_8, rr_39_4, rr_39_5, rr_39_6, rr_39_7, rr_39_8, rr_45_4, rr_45_5, rr_45_6, rr_45_7, rr_45_8, rr_51_4, rr_51_5, rr_51_6, rr_51_7, rr_51_8, rr_57_4, rr_57_5, rr_57_6, rr_57_7, rr_57_8, rr_63_2, rr_63_3, rr_63_4, rr_63_5, rr_68_0, rr_70_1, rr_70_2, rr_74_4, rr_74_5, rr_74_6, rr_74_7, rr_74_8, rr_80_4, rr_80_5, rr_80_6, rr_80_7, rr_80_8, rr_86_2, rr_88_2, rr_90_2, rr_92_0, rr_92_1, rr_92_5, rr_92_6, rr_92_8, rr_92_9, rr_92_12, rr_92_15, rr_92_16, rr_92_17, a1, a2, a3, e1, ↓reduceIte, u2_k, u2_s, nI_add]
      have r1 : wrR (nI c) n = nI (n + 1) := by simp [wrR, h, hf]
      have r2 : wrN (nI c) n = n + 1 := by simp [wrN, h, hf]
      rw [r1, r2] at hk
      refine hk _ ⟨by simp [ip_u2], by omega, fun i hi => ?_⟩ (fun k h1 h2 => by rw [u2_f h1, u2_f h2]) (fun j hj => by rw [u2_i hj, u2_f (by omega)])
      by_cases e : i = n
      · subst e
        simp [ip_u2, wrT, h, hf, nI_toInt (show c < 2 ^ 31 by omega), hc]
      · have := hl i (by omega)
        simp [ip_u2, wrT, h, hf, e, this]
    · have a3 : ¬ nI n < nI 200 := nI_nlt (by omega) (by omega)
      simp (disch := first | assumption | exact bz0 | exact bz1 | exact bzi | omega | decide +kernel) only [I_9_0, I_9_1, I_9_4, I_9_5, I_9_8, I_9_11, I_9_13, I_9_14, I_9_15, I_9_18, I_9_21, I_9_24, I_9_27, I_9_29, I_9_30, I_9_31, I_9_34, I_9_37, I_9_38, I_9_41, I_9_44, I_9_45, I_9_46, I_9_47, I_9_50, I_9_51, I_9_54, I_9_55, I_9_56, I_9_59, I_9_60, I_9_63, I_9_66, rr_0_0, rr_0_1, rr_0_2, rr_0_3, rr_0_4, rr_0_5, rr_0_6, rr_0_7, rr_0_8, rr_1_0, rr_1_1, rr_1_2, rr_1_3, rr_2_4, rr_2_5, rr_2_6, rr_2_7, rr_2_8, rr_13_0, rr_15_4, rr_15_5, rr_15_6, rr_15_7, rr_15_8, rr_21_4, rr_21_5, rr_21_6, rr_21_7, rr_21_8, rr_27_4, rr_27_5, rr_27_6, rr_27_7, rr_27_8, rr_33_4, rr_33_5, rr_33_6, rr_33_7, rr_33_8, rr_39_4, rr_39_5, rr_39_6, rr_39_7, rr_39_8, rr_45_4, rr_45_5, rr_45_6, rr_45_7, rr_45_8, rr_51_4, rr_51_5, rr_51_6, rr_51_7, rr_51_8, rr_57_4, rr_57_5, rr_57_6, rr_57_7, rr_57_8, rr_63_2, rr_63_3, rr_63_4, rr_63_5, rr_68_0, rr_70_1, rr_70_2, rr_74_4, rr_74_5, rr_74_6, rr_74_7, rr_74_8, rr_80_4, rr_80_5, rr_80_6, rr_80_7, rr_80_8, rr_86_2, rr_88_2, rr_90_2, rr_92_0, rr_92_1, rr_92_5, rr_92_6, rr_92_8, rr_92_9, rr_92_12, rr_92_15, rr_92_16, rr_92_17, a1, a2, a3, e1, ↓reduceIte]
      have r1 : wrR (nI c) n = -5 := by simp [wrR, h, hf]
      have r2 : wrN (nI c) n = n := by simp [wrN, hf]
      have r3 : wrT (nI c) n T = T := by simp [wrT, hf]
      rw [← r1]
      exact hk _ ⟨by rw [r2]; exact e1, by rw [r2]; exact hn, by rw [r2, r3]; exact hl⟩ (fun _ _ _ => rfl) (fun _ _ => rfl)
  · have r1 : wrR x n = -3 := by simp [wrR, h]
    have r2 : wrN x n = n := by simp [wrN, h]
    have r3 : wrT x n T = T := by simp [wrT, h]
    have fin := hk σ ⟨by rw [r2]; exact e1, by rw [r2]; exact hn, by rw [r2, r3]; exact hl⟩ (fun _ _ _ => rfl) (fun _ _ => rfl)
    rw [r1] at fin
    rcases inr_f h with h1 | h1
    · have a1 : x < 0 := lt0_iff.mpr h1
      simp (disch := first | assumption | exact bz0 | exact bz1 | exact bzi | omega | decide +kernel) only [I_9_0, I_9_1, I_9_4, I_9_5, I_9_8, I_9_11, I_9_13, I_9_14, I_9_15, I_9_18, I_9_21, I_9_24, I_9_27, I_9_29, I_9_30, I_9_31, I_9_34, I_9_37, I_9_38, I_9_41, I_9_44, I_9_45, I_9_46, I_9_47, I_9_50, I_9_51, I_9_54, I_9_55, I_9_56, I_9_59, I_9_60, I_9_63, I_9_66, a1, ↓reduceIte]
      exact fin
    · have a1 : ¬ x < 0 := fun z => by have := lt0_iff.mp z; omega
      have a2 : ¬ x ≤ nI 255 := fun z => by have := (len_iff (by omega)).mp z; omega
      simp (disch := first | assumption | exact bz0 | exact bz1 | exact bzi | omega | decide +kernel) only [I_9_0, I_9_1, I_9_4, I_9_5, I_9_8, I_9_11, I_9_13, I_9_14, I_9_15, I_9_18, I_9_21, I_9_24, I_9_27, I_9_29, I_9_30, I_9_31, I_9_34, I_9_37, I_9_38, I_9_41, I_9_44, I_9_45, I_9_46, I_9_47, I_9_50, I_9_51, I_9_54, I_9_55, I_9_56, I_9_59, I_9_60, I_9_63, I_9_66, a1, a2, ↓reduceIte]
      exact fin
theorem m_write (E : ip_E) {σ : ip_G} {n : Nat} {T : Nat → Nat} (x : Int32) (hT : MT σ n T) (κ : Option Value → ip_G → Prop) (hk : ∀ σ', MT σ' (wrN x n) (wrT x n T) → (∀ k, k ≠ 92 → k ≠ 96 → σ' k = σ k) → (∀ j, j ≠ 7 → σ' 92 j = σ 92 j) → κ (some (.int (wrR x n))) σ') : wp E 124 0 [.ref 92, .int x] [] σ κ := by
  obtain ⟨e1, hn, hl⟩ := hT
  by_cases h : inr x 256 = true
  · obtain ⟨c, hc, rfl⟩ := inr_t h
    have hin : decide ((0 : Int) ≤ (nI c).toInt ∧ (nI c).toInt ≤ 255) = true := decide_eq_true (by rw [nI_toInt (show c < 2 ^ 31 by omega)]; omega)
    by_cases hf : n < 200
    · have a3 : ¬ nI n = nI 200 := fun z => by have := (nI_eq (by omega) (by omega)).mp z; omega
      simp (disch := first | assumption | exact bz0 | exact bz1 | exact bzi | omega | decide +kernel) only [I_124_0, I_124_1, I_124_2, I_124_3, I_124_6, I_124_9, I_124_12, I_124_14, I_124_15, I_124_16, I_124_19, I_124_22, I_124_25, I_124_27, I_124_28, I_124_29, I_124_32, I_124_33, I_124_36, I_124_37, I_124_38, I_124_39, I_124_40, I_124_43, I_124_44, I_124_45, I_124_48, I_124_49, I_124_52, rr_0_0, rr_0_1, rr_0_2, rr_0_3, rr_0_4, rr_0_5, rr_0_6, rr_0_7, rr_0_8, rr_1_0, rr_1_1, rr_1_2, rr_1_3, rr_2_4, rr_2_5, rr_2_6, rr_2_7, rr_2_8, rr_13_0, rr_15_4, rr_15_5, rr_15_6, rr_15_7, rr_15_8, rr_21_4, rr_21_5, rr_21_6, rr_21_7, rr_21_8, rr_27_4, rr_27_5, rr_27_6, rr_27_7, rr_27_8, rr_33_4, rr_33_5, rr_33_6, rr_33_7, rr_33_8, rr_39_4, rr_39_5, rr_39_6, rr_39_7, rr_39_8, rr_45_4, rr_45_5, rr_45_6, rr_45_7, rr_45_8, rr_51_4, rr_51_5, rr_51_6, rr_51_7, rr_51_8, rr_57_4, rr_57_5, rr_57_6, rr_57_7, rr_57_8, rr_63_2, rr_63_3, rr_63_4, rr_63_5, rr_68_0, rr_70_1, rr_70_2, rr_74_4, rr_74_5, rr_74_6, rr_74_7, rr_74_8, rr_80_4, rr_80_5, rr_80_6, rr_80_7, rr_80_8, rr_86_2, rr_88_2, rr_90_2, rr_92_0, rr_92_1, rr_92_5, rr_92_6, rr_92_8, rr_92_9, rr_92_12, rr_92_15, rr_92_16, rr_92_17, m_in, i2l_toInt, l0, lk255, hin, b2n, show ¬ nI 1 = 0 from by decide +kernel, not_false_eq_true, a3, e1, ↓reduceIte, Option.toList_some, List.cons_append, List.nil_append, u2_k, u2_s, nI_add]
      have r1 : wrR (nI c) n = nI (n + 1) := by simp [wrR, h, hf]
      have r2 : wrN (nI c) n = n + 1 := by simp [wrN, h, hf]
      rw [r1, r2] at hk
      refine hk _ ⟨by simp [ip_u2], by omega, fun i hi => ?_⟩ (fun k h1 h2 => by rw [u2_f h1, u2_f h2]) (fun j hj => by rw [u2_i hj, u2_f (by omega)])
      by_cases e : i = n
      · subst e
        simp [ip_u2, wrT, h, hf, nI_toInt (show c < 2 ^ 31 by omega), hc]
      · have := hl i (by omega)
        simp [ip_u2, wrT, h, hf, e, this]
    · have hn2 : n = 200 := by omega
      subst hn2
      simp (disch := first | assumption | exact bz0 | exact bz1 | exact bzi | omega | decide +kernel) only [I_124_0, I_124_1, I_124_2, I_124_3, I_124_6, I_124_9, I_124_12, I_124_14, I_124_15, I_124_16, I_124_19, I_124_22, I_124_25, I_124_27, I_124_28, I_124_29, I_124_32, I_124_33, I_124_36, I_124_37, I_124_38, I_124_39, I_124_40, I_124_43, I_124_44, I_124_45, I_124_48, I_124_49, I_124_52, rr_0_0, rr_0_1, rr_0_2, rr_0_3, rr_0_4, rr_0_5, rr_0_6, rr_0_7, rr_0_8, rr_1_0, rr_1_1, rr_1_2, rr_1_3, rr_2_4, rr_2_5, rr_2_6, rr_2_7, rr_2_8, rr_13_0, rr_15_4, rr_15_5, rr_15_6, rr_15_7, rr_15_8, rr_21_4, rr_21_5, rr_21_6, rr_21_7, rr_21_8, rr_27_4, rr_27_5, rr_27_6, rr_27_7, rr_27_8, rr_33_4, rr_33_5, rr_33_6, rr_33_7, rr_33_8, rr_39_4, rr_39_5, rr_39_6, rr_39_7, rr_39_8, rr_45_4, rr_45_5, rr_45_6, rr_45_7, rr_45_8, rr_51_4, rr_51_5, rr_51_6, rr_51_7, rr_51_8, rr_57_4, rr_57_5, rr_57_6, rr_57_7, rr_57_8, rr_63_2, rr_63_3, rr_63_4, rr_63_5, rr_68_0, rr_70_1, rr_70_2, rr_74_4, rr_74_5, rr_74_6, rr_74_7, rr_74_8, rr_80_4, rr_80_5, rr_80_6, rr_80_7, rr_80_8, rr_86_2, rr_88_2, rr_90_2, rr_92_0, rr_92_1, rr_92_5, rr_92_6, rr_92_8, rr_92_9, rr_92_12, rr_92_15, rr_92_16, rr_92_17, m_in, i2l_toInt, l0, lk255, hin, b2n, show ¬ nI 1 = 0 from by decide +kernel, not_false_eq_true, not_true_eq_false, e1, ↓reduceIte, Option.toList_some, List.cons_append, List.nil_append]
      have r1 : wrR (nI c) 200 = -5 := by simp [wrR, h]
      have r2 : wrN (nI c) 200 = 200 := by simp [wrN]
      have r3 : wrT (nI c) 200 T = T := by simp [wrT]
      rw [← r1]
      exact hk _ ⟨by rw [r2]; exact e1, by rw [r2]; exact hn, by rw [r2, r3]; exact hl⟩ (fun _ _ _ => rfl) (fun _ _ => rfl)
  · have r1 : wrR x n = -3 := by simp [wrR, h]
    have r2 : wrN x n = n := by simp [wrN, h]
    have r3 : wrT x n T = T := by simp [wrT, h]
    have fin := hk σ ⟨by rw [r2]; exact e1, by rw [r2]; exact hn, by rw [r2, r3]; exact hl⟩ (fun _ _ _ => rfl) (fun _ _ => rfl)
    rw [r1] at fin
    have hin : decide ((0 : Int) ≤ x.toInt ∧ x.toInt ≤ 255) = false := decide_eq_false (by have := inr_f h; omega)
    simp (disch := first | assumption | exact bz0 | exact bz1 | exact bzi | omega | decide +kernel) only [I_124_0, I_124_1, I_124_2, I_124_3, I_124_6, I_124_9, I_124_12, I_124_14, I_124_15, I_124_16, I_124_19, I_124_22, I_124_25, I_124_27, I_124_28, I_124_29, I_124_32, I_124_33, I_124_36, I_124_37, I_124_38, I_124_39, I_124_40, I_124_43, I_124_44, I_124_45, I_124_48, I_124_49, I_124_52, m_in, i2l_toInt, l0, lk255, hin, b2n, ip_nI0, not_true_eq_false, Bool.false_eq_true, ↓reduceIte, Option.toList_some, List.cons_append, List.nil_append]
    exact fin
theorem c_erase (E : ip_E) {σ : ip_G} {n : Nat} {T : Nat → Nat} (hT : CT σ n T) (κ : Option Value → ip_G → Prop) (hk : ∀ σ', CT σ' 0 T → (∀ k, k ≠ 68 → σ' k = σ k) → (∀ j, j ≠ 1 → σ' 68 j = σ 68 j) → κ (some (.int (nI n))) σ') : wp E 10 0 [.ref 0, .retAddr 0] [] σ κ := by
  obtain ⟨e1, hn, hl⟩ := hT
  simp (disch := first | assumption | exact bz0 | exact bz1 | exact bzi | omega | decide +kernel) only [I_10_0, I_10_1, I_10_4, I_10_7, I_10_8, I_10_9, I_10_12, I_10_13, I_10_16, I_10_17, rr_0_0, rr_0_1, rr_0_2, rr_0_3, rr_0_4, rr_0_5, rr_0_6, rr_0_7, rr_0_8, rr_1_0, rr_1_1, rr_1_2, rr_1_3, rr_2_4, rr_2_5, rr_2_6, rr_2_7, rr_2_8, rr_13_0, rr_15_4, rr_15_5, rr_15_6, rr_15_7, rr_15_8, rr_21_4, rr_21_5, rr_21_6, rr_21_7, rr_21_8, rr_27_4, rr_27_5, rr_27_6, rr_27_7, rr_27_8, rr_33_4, rr_33_5, rr_33_6, rr_33_7, rr_33_8, rr_39_4, rr_39_5, rr_39_6, rr_39_7, rr_39_8, rr_45_4, rr_45_5, rr_45_6, rr_45_7, rr_45_8, rr_51_4, rr_51_5, rr_51_6, rr_51_7, rr_51_8, rr_57_4, rr_57_5, rr_57_6, rr_57_7, rr_57_8, rr_63_2, rr_63_3, rr_63_4, rr_63_5, rr_68_0, rr_70_1, rr_70_2, rr_74_4, rr_74_5, rr_74_6, rr_74_7, rr_74_8, rr_80_4, rr_80_5, rr_80_6, rr_80_7, rr_80_8, rr_86_2, rr_88_2, rr_90_2, rr_92_0, rr_92_1, rr_92_5, rr_92_6, rr_92_8, rr_92_9, rr_92_12, rr_92_15, rr_92_16, rr_92_17, e1]
  exact hk _ ⟨by simp [ip_u2], by omega, fun i hi => absurd hi (by omega)⟩ (fun k h1 => by rw [u2_f h1]) (fun j hj => by rw [u2_i hj])
theorem m_erase (E : ip_E) {σ : ip_G} {n : Nat} {T : Nat → Nat} (hT : MT σ n T) (κ : Option Value → ip_G → Prop) (hk : ∀ σ', MT σ' 0 T → (∀ k, k ≠ 92 → σ' k = σ k) → (∀ j, j ≠ 7 → σ' 92 j = σ 92 j) → κ (some (.int (nI n))) σ') : wp E 126 0 [.ref 92, .retAddr 0] [] σ κ := by
  obtain ⟨e1, hn, hl⟩ := hT
  simp (disch := first | assumption | exact bz0 | exact bz1 | exact bzi | omega | decide +kernel) only [I_126_0, I_126_1, I_126_4, I_126_5, I_126_6, I_126_7, I_126_10, I_126_11, rr_0_0, rr_0_1, rr_0_2, rr_0_3, rr_0_4, rr_0_5, rr_0_6, rr_0_7, rr_0_8, rr_1_0, rr_1_1, rr_1_2, rr_1_3, rr_2_4, rr_2_5, rr_2_6, rr_2_7, rr_2_8, rr_13_0, rr_15_4, rr_15_5, rr_15_6, rr_15_7, rr_15_8, rr_21_4, rr_21_5, rr_21_6, rr_21_7, rr_21_8, rr_27_4, rr_27_5, rr_27_6, rr_27_7, rr_27_8, rr_33_4, rr_33_5, rr_33_6, rr_33_7, rr_33_8, rr_39_4, rr_39_5, rr_39_6, rr_39_7, rr_39_8, rr_45_4, rr_45_5, rr_45_6, rr_45_7, rr_45_8, rr_51_4, rr_51_5, rr_51_6, rr_51_7, rr_51_8, rr_57_4, rr_57_5, rr_57_6, rr_57_7, rr_57_8, rr_63_2, rr_63_3, rr_63_4, rr_63_5, rr_68_0, rr_70_1, rr_70_2, rr_74_4, rr_74_5, rr_74_6, rr_74_7, rr_74_8, rr_80_4, rr_80_5, rr_80_6, rr_80_7, rr_80_8, rr_86_2, rr_88_2, rr_90_2, rr_92_0, rr_92_1, rr_92_5, rr_92_6, rr_92_8, rr_92_9, rr_92_12, rr_92_15, rr_92_16, rr_92_17, e1]
  exact hk _ ⟨by simp [ip_u2], by omega, fun i hi => absurd hi (by omega)⟩ (fun k h1 => by rw [u2_f h1]) (fun j hj => by rw [u2_i hj])
