/-! the sample (reference) -/
theorem MM_fr {σ σ' : ip_G} {r c : Nat} {X : Nat → Nat} (h : MM σ r c X) (h1 : σ' 92 2 = σ 92 2) (h2 : σ' 92 3 = σ 92 3) (h3 : σ' 94 = σ 94) : MM σ' r c X := by
  unfold MM
  rw [h1, h2, h3]
  exact h
theorem L_column (E : ip_E) {σ : ip_G} {r c i : Nat} {X : Nat → Nat} (hX : MM σ r c X) (hW : WX r c X) (hi : i < 12) (κ : Option Value → ip_G → Prop) : ∀ (m j : Nat), j + m = r → wp E 165 4 [.ref 92, .int (nI i), .int (nI (bits (fun j => (X j).testBit i) j)), .int (nI j)] [] σ κ = κ (some (.int (nI (colX X r i)))) σ := by
  obtain ⟨x1, x2, x3⟩ := hX
  obtain ⟨w1, w2, w3, w4⟩ := hW
  intro m
  induction m with
  | zero =>
    intro j hj
    have hc : nI r ≤ nI j := nI_le (by omega) (by omega)
    have : j = r := by omega
    subst this
    simp (disch := first | assumption | exact bz0 | exact bz1 | exact bzi | omega | decide +kernel) only [I_165_0, I_165_1, I_165_2, I_165_3, I_165_4, I_165_5, I_165_6, I_165_9, I_165_12, I_165_13, I_165_14, I_165_17, I_165_18, I_165_19, I_165_20, I_165_23, I_165_26, I_165_27, I_165_28, I_165_29, I_165_32, I_165_33, I_165_34, I_165_35, I_165_38, I_165_41, I_165_42, x1, hc, ↓reduceIte]
    rfl
  | succ m ih =>
    intro j hj
    have hc : ¬ nI r ≤ nI j := nI_ge (by omega) (by omega)
    have e1 : bits (fun j => (X j).testBit i) (j + 1) = bits (fun j => (X j).testBit i) j ||| (if (X j).testBit i = true then 2 ^ j else 0) := rfl
    have ih1 := ih (j + 1) (by omega)
    rw [e1] at ih1
    rw [I_165_4]
    simp (disch := first | assumption | exact bz0 | exact bz1 | exact bzi | omega | decide +kernel) only [I_165_0, I_165_1, I_165_2, I_165_3, I_165_5, I_165_6, I_165_9, I_165_12, I_165_13, I_165_14, I_165_17, I_165_18, I_165_19, I_165_20, I_165_23, I_165_26, I_165_27, I_165_28, I_165_29, I_165_32, I_165_33, I_165_34, I_165_35, I_165_38, I_165_41, I_165_42, rr_0_0, rr_0_1, rr_0_2, rr_0_3, rr_0_4, rr_0_5, rr_0_6, rr_0_7, rr_0_8, rr_1_0, rr_1_1, rr_1_2, rr_1_3, rr_2_4, rr_2_5, rr_2_6, rr_2_7, rr_2_8, rr_13_0, rr_15_4, rr_15_5, rr_15_6, rr_15_7, rr_15_8, rr_21_4, rr_21_5, rr_21_6, rr_21_7, rr_21_8, rr_27_4, rr_27_5, rr_27_6, rr_27_7, rr_27_8, rr_33_4, rr_33_5, rr_33_6, rr_33_7, rr_33_8, rr_39_4, rr_39_5, rr_39_6, rr_39_7, rr_39_8, rr_45_4, rr_45_5, rr_45_6, rr_45_7, rr_45_8, rr_51_4, rr_51_5, rr_51_6, rr_51_7, rr_51_8, rr_57_4, rr_57_5, rr_57_6, rr_57_7, rr_57_8, rr_63_2, rr_63_3, rr_63_4, rr_63_5, rr_68_0, rr_70_1, rr_70_2, rr_74_4, rr_74_5, rr_74_6, rr_74_7, rr_74_8, rr_80_4, rr_80_5, rr_80_6, rr_80_7, rr_80_8, rr_86_2, rr_88_2, rr_90_2, rr_92_0, rr_92_1, rr_92_5, rr_92_6, rr_92_8, rr_92_9, rr_92_12, rr_92_15, rr_92_16, rr_92_17, x1, x3 j (by omega), hc, ↓reduceIte, m_has E _ (show i < 32 by omega), bt_nI (show i < 32 by omega), Option.toList_some, List.cons_append, List.nil_append]
    cases hu : (X j).testBit i with
    | true =>
      rw [hu] at ih1
      simp (disch := first | assumption | exact bz0 | exact bz1 | exact bzi | omega | decide +kernel) only [I_165_0, I_165_1, I_165_2, I_165_3, I_165_5, I_165_6, I_165_9, I_165_12, I_165_13, I_165_14, I_165_17, I_165_18, I_165_19, I_165_20, I_165_23, I_165_26, I_165_27, I_165_28, I_165_29, I_165_32, I_165_33, I_165_34, I_165_35, I_165_38, I_165_41, I_165_42, ↓reduceIte, nb1, nI_shl1 (show j < 31 by omega), nx_or, nI_add]
      exact ih1
    | false =>
      rw [hu] at ih1
      simp only [Bool.false_eq_true, ↓reduceIte] at ih1
      simp (disch := first | assumption | exact bz0 | exact bz1 | exact bzi | omega | decide +kernel) only [I_165_0, I_165_1, I_165_2, I_165_3, I_165_5, I_165_6, I_165_9, I_165_12, I_165_13, I_165_14, I_165_17, I_165_18, I_165_19, I_165_20, I_165_23, I_165_26, I_165_27, I_165_28, I_165_29, I_165_32, I_165_33, I_165_34, I_165_35, I_165_38, I_165_41, I_165_42, ↓reduceIte, nb0, nI_add, nx_or]
      exact ih1
theorem m_column (E : ip_E) {σ : ip_G} {r c i : Nat} {X : Nat → Nat} (hX : MM σ r c X) (hW : WX r c X) (hi : i < 12) (κ : Option Value → ip_G → Prop) : wp E 165 0 [.ref 92, .int (nI i), .retAddr 0, .retAddr 0] [] σ κ = κ (some (.int (nI (colX X r i)))) σ := by
  simp only [I_165_0, I_165_1, I_165_2, I_165_3, I_165_5, I_165_6, I_165_9, I_165_12, I_165_13, I_165_14, I_165_17, I_165_18, I_165_19, I_165_20, I_165_23, I_165_26, I_165_27, I_165_28, I_165_29, I_165_32, I_165_33, I_165_34, I_165_35, I_165_38, I_165_41, I_165_42]
  exact L_column E hX hW hi κ r 0 (by omega)
theorem L_shaftOf1 (E : ip_E) {σ : ip_G} {r c k : Nat} {X : Nat → Nat} (hX : MM σ r c X) (hW : WX r c X) (hk : k < 12) (i n : Int32) (κ : Option Value → ip_G → Prop) : ∀ (m h : Nat), h + m = k → wp E 164 18 [.ref 92, .int i, .int n, .int (nI k), .int (nI (b2n (nwF (colX X r) k h))), .int (nI h)] [] σ κ = wp E 164 56 [.ref 92, .int i, .int n, .int (nI k), .int (nI (b2n (nwF (colX X r) k k))), .int (nI k)] [] σ κ := by
  have w1 := hW.1
  intro m
  induction m with
  | zero =>
    intro h hh
    have hc : nI k ≤ nI h := nI_le (by omega) (by omega)
    have : h = k := by omega
    subst this
    simp (disch := first | assumption | exact bz0 | exact bz1 | exact bzi | omega | decide +kernel) only [I_164_0, I_164_1, I_164_2, I_164_3, I_164_5, I_164_6, I_164_9, I_164_12, I_164_13, I_164_15, I_164_16, I_164_18, I_164_20, I_164_21, I_164_24, I_164_26, I_164_29, I_164_30, I_164_32, I_164_35, I_164_36, I_164_37, I_164_40, I_164_43, I_164_44, I_164_47, I_164_48, I_164_50, I_164_53, I_164_57, I_164_58, I_164_61, I_164_62, I_164_63, I_164_66, I_164_69, I_164_70, I_164_71, I_164_72, I_164_74, I_164_77, I_164_78, I_164_81, I_164_82, I_164_83, I_164_84, I_164_87, I_164_90, I_164_91, hc, ↓reduceIte]
  | succ m ih =>
    intro h hh
    have hc : ¬ nI k ≤ nI h := nI_ge (by omega) (by omega)
    have e1 : nwF (colX X r) k (h + 1) = (nwF (colX X r) k h && decide (¬ colX X r h = colX X r k)) := rfl
    have ih1 := ih (h + 1) (by omega)
    rw [e1] at ih1
    have b1 : colX X r h < 4096 := bits_4096 _ w1
    have b2 : colX X r k < 4096 := bits_4096 _ w1
    rw [I_164_18]
    cases hw : nwF (colX X r) k h with
    | false =>
      rw [hw, Bool.false_and] at ih1
      simp (disch := first | assumption | exact bz0 | exact bz1 | exact bzi | omega | decide +kernel) only [I_164_0, I_164_1, I_164_2, I_164_3, I_164_5, I_164_6, I_164_9, I_164_12, I_164_13, I_164_15, I_164_16, I_164_20, I_164_21, I_164_24, I_164_26, I_164_29, I_164_30, I_164_32, I_164_35, I_164_36, I_164_37, I_164_40, I_164_43, I_164_44, I_164_47, I_164_48, I_164_50, I_164_53, I_164_57, I_164_58, I_164_61, I_164_62, I_164_63, I_164_66, I_164_69, I_164_70, I_164_71, I_164_72, I_164_74, I_164_77, I_164_78, I_164_81, I_164_82, I_164_83, I_164_84, I_164_87, I_164_90, I_164_91, hc, nb0, ↓reduceIte, nI_add]
      exact ih1
    | true =>
      rw [hw, Bool.true_and] at ih1
      simp (disch := first | assumption | exact bz0 | exact bz1 | exact bzi | omega | decide +kernel) only [I_164_0, I_164_1, I_164_2, I_164_3, I_164_5, I_164_6, I_164_9, I_164_12, I_164_13, I_164_15, I_164_16, I_164_20, I_164_21, I_164_24, I_164_26, I_164_29, I_164_30, I_164_32, I_164_35, I_164_36, I_164_37, I_164_40, I_164_43, I_164_44, I_164_47, I_164_48, I_164_50, I_164_53, I_164_57, I_164_58, I_164_61, I_164_62, I_164_63, I_164_66, I_164_69, I_164_70, I_164_71, I_164_72, I_164_74, I_164_77, I_164_78, I_164_81, I_164_82, I_164_83, I_164_84, I_164_87, I_164_90, I_164_91, hc, nb1, ↓reduceIte, m_column E hX hW (show h < 12 by omega), m_column E hX hW hk, Option.toList_some, List.cons_append, List.nil_append, nI_eq]
      by_cases hq : colX X r h = colX X r k
      · rw [decide_eq_false (not_not_intro hq)] at ih1
        simp (disch := first | assumption | exact bz0 | exact bz1 | exact bzi | omega | decide +kernel) only [I_164_0, I_164_1, I_164_2, I_164_3, I_164_5, I_164_6, I_164_9, I_164_12, I_164_13, I_164_15, I_164_16, I_164_20, I_164_21, I_164_24, I_164_26, I_164_29, I_164_30, I_164_32, I_164_35, I_164_36, I_164_37, I_164_40, I_164_43, I_164_44, I_164_47, I_164_48, I_164_50, I_164_53, I_164_57, I_164_58, I_164_61, I_164_62, I_164_63, I_164_66, I_164_69, I_164_70, I_164_71, I_164_72, I_164_74, I_164_77, I_164_78, I_164_81, I_164_82, I_164_83, I_164_84, I_164_87, I_164_90, I_164_91, hq, ↓reduceIte, nI_add]
        exact ih1
      · rw [decide_eq_true hq] at ih1
        simp (disch := first | assumption | exact bz0 | exact bz1 | exact bzi | omega | decide +kernel) only [I_164_0, I_164_1, I_164_2, I_164_3, I_164_5, I_164_6, I_164_9, I_164_12, I_164_13, I_164_15, I_164_16, I_164_20, I_164_21, I_164_24, I_164_26, I_164_29, I_164_30, I_164_32, I_164_35, I_164_36, I_164_37, I_164_40, I_164_43, I_164_44, I_164_47, I_164_48, I_164_50, I_164_53, I_164_57, I_164_58, I_164_61, I_164_62, I_164_63, I_164_66, I_164_69, I_164_70, I_164_71, I_164_72, I_164_74, I_164_77, I_164_78, I_164_81, I_164_82, I_164_83, I_164_84, I_164_87, I_164_90, I_164_91, hq, ↓reduceIte, nI_add]
        exact ih1
theorem L_shaftOf2 (E : ip_E) {σ : ip_G} {r c i : Nat} {X : Nat → Nat} (hX : MM σ r c X) (hW : WX r c X) (hi : i < c) (κ : Option Value → ip_G → Prop) : ∀ (m k : Nat) (v v2 : Value), k + m = i → wp E 164 4 [.ref 92, .int (nI i), .int (nI (nU (colX X r) k)), .int (nI k), v, v2] [] σ κ = κ (some (.int (nI (nU (colX X r) (fF (colX X r) i m k))))) σ := by
  have w1 := hW.1
  have w2 := hW.2.1
  have x2 := hX.2.1
  intro m
  induction m with
  | zero =>
    intro k v v2 hk
    have hc : ¬ nI c ≤ nI k := nI_ge (by omega) (by omega)
    have hk2 : k = i := by omega
    subst hk2
    have L := fun n => L_shaftOf1 E hX hW (k := k) (by omega) (nI k) n κ k 0 (by omega)
    simp only [nwF, b2n_t] at L
    rw [I_164_4]
    simp (disch := first | assumption | exact bz0 | exact bz1 | exact bzi | omega | decide +kernel) only [I_164_0, I_164_1, I_164_2, I_164_3, I_164_5, I_164_6, I_164_9, I_164_12, I_164_13, I_164_15, I_164_16, I_164_20, I_164_21, I_164_24, I_164_26, I_164_29, I_164_30, I_164_32, I_164_35, I_164_36, I_164_37, I_164_40, I_164_43, I_164_44, I_164_47, I_164_48, I_164_50, I_164_53, I_164_57, I_164_58, I_164_61, I_164_62, I_164_63, I_164_66, I_164_69, I_164_70, I_164_71, I_164_72, I_164_74, I_164_77, I_164_78, I_164_81, I_164_82, I_164_83, I_164_84, I_164_87, I_164_90, I_164_91, x2, hc, ↓reduceIte]
    rw [L]
    simp (disch := first | assumption | exact bz0 | exact bz1 | exact bzi | omega | decide +kernel) only [I_164_0, I_164_1, I_164_2, I_164_3, I_164_5, I_164_6, I_164_9, I_164_12, I_164_13, I_164_15, I_164_16, I_164_20, I_164_21, I_164_24, I_164_26, I_164_29, I_164_30, I_164_32, I_164_35, I_164_36, I_164_37, I_164_40, I_164_43, I_164_44, I_164_47, I_164_48, I_164_50, I_164_53, I_164_56, I_164_57, I_164_58, I_164_61, I_164_62, I_164_63, I_164_66, I_164_69, I_164_70, I_164_71, I_164_72, I_164_74, I_164_77, I_164_78, I_164_81, I_164_82, I_164_83, I_164_84, I_164_87, I_164_90, I_164_91, m_column E hX hW (show k < 12 by omega), Option.toList_some, List.cons_append, List.nil_append, not_true_eq_false, ↓reduceIte, fF]
  | succ m ih =>
    intro k v v2 hk
    have hc : ¬ nI c ≤ nI k := nI_ge (by omega) (by omega)
    have L := fun n => L_shaftOf1 E hX hW (k := k) (by omega) (nI i) n κ k 0 (by omega)
    simp only [nwF, b2n_t] at L
    have b1 : colX X r i < 4096 := bits_4096 _ w1
    have b2 : colX X r k < 4096 := bits_4096 _ w1
    rw [I_164_4]
    simp (disch := first | assumption | exact bz0 | exact bz1 | exact bzi | omega | decide +kernel) only [I_164_0, I_164_1, I_164_2, I_164_3, I_164_5, I_164_6, I_164_9, I_164_12, I_164_13, I_164_15, I_164_16, I_164_20, I_164_21, I_164_24, I_164_26, I_164_29, I_164_30, I_164_32, I_164_35, I_164_36, I_164_37, I_164_40, I_164_43, I_164_44, I_164_47, I_164_48, I_164_50, I_164_53, I_164_57, I_164_58, I_164_61, I_164_62, I_164_63, I_164_66, I_164_69, I_164_70, I_164_71, I_164_72, I_164_74, I_164_77, I_164_78, I_164_81, I_164_82, I_164_83, I_164_84, I_164_87, I_164_90, I_164_91, x2, hc, ↓reduceIte]
    rw [L]
    simp (disch := first | assumption | exact bz0 | exact bz1 | exact bzi | omega | decide +kernel) only [I_164_0, I_164_1, I_164_2, I_164_3, I_164_5, I_164_6, I_164_9, I_164_12, I_164_13, I_164_15, I_164_16, I_164_20, I_164_21, I_164_24, I_164_26, I_164_29, I_164_30, I_164_32, I_164_35, I_164_36, I_164_37, I_164_40, I_164_43, I_164_44, I_164_47, I_164_48, I_164_50, I_164_53, I_164_56, I_164_57, I_164_58, I_164_61, I_164_62, I_164_63, I_164_66, I_164_69, I_164_70, I_164_71, I_164_72, I_164_74, I_164_77, I_164_78, I_164_81, I_164_82, I_164_83, I_164_84, I_164_87, I_164_90, I_164_91, m_column E hX hW (show k < 12 by omega), m_column E hX hW (show i < 12 by omega), Option.toList_some, List.cons_append, List.nil_append, nI_eq]
    by_cases h : colX X r k = colX X r i
    · simp (disch := first | assumption | exact bz0 | exact bz1 | exact bzi | omega | decide +kernel) only [I_164_0, I_164_1, I_164_2, I_164_3, I_164_5, I_164_6, I_164_9, I_164_12, I_164_13, I_164_15, I_164_16, I_164_20, I_164_21, I_164_24, I_164_26, I_164_29, I_164_30, I_164_32, I_164_35, I_164_36, I_164_37, I_164_40, I_164_43, I_164_44, I_164_47, I_164_48, I_164_50, I_164_53, I_164_56, I_164_57, I_164_58, I_164_61, I_164_62, I_164_63, I_164_66, I_164_69, I_164_70, I_164_71, I_164_72, I_164_74, I_164_77, I_164_78, I_164_81, I_164_82, I_164_83, I_164_84, I_164_87, I_164_90, I_164_91, h, not_true_eq_false, ↓reduceIte, fF]
    · cases hw : nwF (colX X r) k k with
      | true =>
        simp (disch := first | assumption | exact bz0 | exact bz1 | exact bzi | omega | decide +kernel) only [I_164_0, I_164_1, I_164_2, I_164_3, I_164_5, I_164_6, I_164_9, I_164_12, I_164_13, I_164_15, I_164_16, I_164_20, I_164_21, I_164_24, I_164_26, I_164_29, I_164_30, I_164_32, I_164_35, I_164_36, I_164_37, I_164_40, I_164_43, I_164_44, I_164_47, I_164_48, I_164_50, I_164_53, I_164_56, I_164_57, I_164_58, I_164_61, I_164_62, I_164_63, I_164_66, I_164_69, I_164_70, I_164_71, I_164_72, I_164_74, I_164_77, I_164_78, I_164_81, I_164_82, I_164_83, I_164_84, I_164_87, I_164_90, I_164_91, h, nb1, not_false_eq_true, ↓reduceIte, nI_add]
        rw [← nU_new hw, ih (k + 1) _ _ (by omega)]
        simp only [fF, h, ↓reduceIte]
      | false =>
        simp (disch := first | assumption | exact bz0 | exact bz1 | exact bzi | omega | decide +kernel) only [I_164_0, I_164_1, I_164_2, I_164_3, I_164_5, I_164_6, I_164_9, I_164_12, I_164_13, I_164_15, I_164_16, I_164_20, I_164_21, I_164_24, I_164_26, I_164_29, I_164_30, I_164_32, I_164_35, I_164_36, I_164_37, I_164_40, I_164_43, I_164_44, I_164_47, I_164_48, I_164_50, I_164_53, I_164_56, I_164_57, I_164_58, I_164_61, I_164_62, I_164_63, I_164_66, I_164_69, I_164_70, I_164_71, I_164_72, I_164_74, I_164_77, I_164_78, I_164_81, I_164_82, I_164_83, I_164_84, I_164_87, I_164_90, I_164_91, h, nb0, not_false_eq_true, ↓reduceIte, nI_add, Nat.add_zero]
        rw [← nU_old hw, ih (k + 1) _ _ (by omega)]
        simp only [fF, h, ↓reduceIte]
theorem m_shaftOf (E : ip_E) {σ : ip_G} {r c i : Nat} {X : Nat → Nat} (hX : MM σ r c X) (hW : WX r c X) (hi : i < c) (κ : Option Value → ip_G → Prop) : wp E 164 0 [.ref 92, .int (nI i), .retAddr 0, .retAddr 0, .retAddr 0, .retAddr 0] [] σ κ = κ (some (.int (nI (nb (colX X r) i)))) σ := by
  simp only [I_164_0, I_164_1, I_164_2, I_164_3, I_164_5, I_164_6, I_164_9, I_164_12, I_164_13, I_164_15, I_164_16, I_164_18, I_164_20, I_164_21, I_164_24, I_164_26, I_164_29, I_164_30, I_164_32, I_164_35, I_164_36, I_164_37, I_164_40, I_164_43, I_164_44, I_164_47, I_164_48, I_164_50, I_164_53, I_164_56, I_164_57, I_164_58, I_164_61, I_164_62, I_164_63, I_164_66, I_164_69, I_164_70, I_164_71, I_164_72, I_164_74, I_164_77, I_164_78, I_164_81, I_164_82, I_164_83, I_164_84, I_164_87, I_164_90, I_164_91]
  exact L_shaftOf2 E hX hW hi κ i 0 _ _ (by omega)
theorem L_treadleOf1 (E : ip_E) {σ : ip_G} {r c k : Nat} {X : Nat → Nat} (hX : MM σ r c X) (hW : WX r c X) (hk : k < r) (i n : Int32) (κ : Option Value → ip_G → Prop) : ∀ (m h : Nat), h + m = k → wp E 167 18 [.ref 92, .int i, .int n, .int (nI k), .int (nI (b2n (nwF X k h))), .int (nI h)] [] σ κ = wp E 167 58 [.ref 92, .int i, .int n, .int (nI k), .int (nI (b2n (nwF X k k))), .int (nI k)] [] σ κ := by
  obtain ⟨x1, x2, x3⟩ := hX
  obtain ⟨w1, w2, w3, w4⟩ := hW
  intro m
  induction m with
  | zero =>
    intro h hh
    have hc : nI k ≤ nI h := nI_le (by omega) (by omega)
    have : h = k := by omega
    subst this
    simp (disch := first | assumption | exact bz0 | exact bz1 | exact bzi | omega | decide +kernel) only [I_167_0, I_167_1, I_167_2, I_167_3, I_167_5, I_167_6, I_167_9, I_167_12, I_167_13, I_167_15, I_167_16, I_167_18, I_167_20, I_167_21, I_167_24, I_167_26, I_167_29, I_167_30, I_167_33, I_167_35, I_167_36, I_167_37, I_167_40, I_167_41, I_167_42, I_167_45, I_167_46, I_167_49, I_167_50, I_167_52, I_167_55, I_167_59, I_167_62, I_167_63, I_167_64, I_167_65, I_167_68, I_167_69, I_167_70, I_167_73, I_167_74, I_167_75, I_167_76, I_167_78, I_167_81, I_167_82, I_167_85, I_167_86, I_167_87, I_167_88, I_167_91, I_167_94, I_167_95, hc, ↓reduceIte]
  | succ m ih =>
    intro h hh
    have hc : ¬ nI k ≤ nI h := nI_ge (by omega) (by omega)
    have e1 : nwF X k (h + 1) = (nwF X k h && decide (¬ X h = X k)) := rfl
    have ih1 := ih (h + 1) (by omega)
    rw [e1] at ih1
    have b1 := w4 h (by omega)
    have b2 := w4 k hk
    rw [I_167_18]
    cases hw : nwF X k h with
    | false =>
      rw [hw, Bool.false_and] at ih1
      simp (disch := first | assumption | exact bz0 | exact bz1 | exact bzi | omega | decide +kernel) only [I_167_0, I_167_1, I_167_2, I_167_3, I_167_5, I_167_6, I_167_9, I_167_12, I_167_13, I_167_15, I_167_16, I_167_20, I_167_21, I_167_24, I_167_26, I_167_29, I_167_30, I_167_33, I_167_35, I_167_36, I_167_37, I_167_40, I_167_41, I_167_42, I_167_45, I_167_46, I_167_49, I_167_50, I_167_52, I_167_55, I_167_59, I_167_62, I_167_63, I_167_64, I_167_65, I_167_68, I_167_69, I_167_70, I_167_73, I_167_74, I_167_75, I_167_76, I_167_78, I_167_81, I_167_82, I_167_85, I_167_86, I_167_87, I_167_88, I_167_91, I_167_94, I_167_95, hc, nb0, ↓reduceIte, nI_add]
      exact ih1
    | true =>
      rw [hw, Bool.true_and] at ih1
      simp (disch := first | assumption | exact bz0 | exact bz1 | exact bzi | omega | decide +kernel) only [I_167_0, I_167_1, I_167_2, I_167_3, I_167_5, I_167_6, I_167_9, I_167_12, I_167_13, I_167_15, I_167_16, I_167_20, I_167_21, I_167_24, I_167_26, I_167_29, I_167_30, I_167_33, I_167_35, I_167_36, I_167_37, I_167_40, I_167_41, I_167_42, I_167_45, I_167_46, I_167_49, I_167_50, I_167_52, I_167_55, I_167_59, I_167_62, I_167_63, I_167_64, I_167_65, I_167_68, I_167_69, I_167_70, I_167_73, I_167_74, I_167_75, I_167_76, I_167_78, I_167_81, I_167_82, I_167_85, I_167_86, I_167_87, I_167_88, I_167_91, I_167_94, I_167_95, rr_0_0, rr_0_1, rr_0_2, rr_0_3, rr_0_4, rr_0_5, rr_0_6, rr_0_7, rr_0_8, rr_1_0, rr_1_1, rr_1_2, rr_1_3, rr_2_4, rr_2_5, rr_2_6, rr_2_7, rr_2_8, rr_13_0, rr_15_4, rr_15_5, rr_15_6, rr_15_7, rr_15_8, rr_21_4, rr_21_5, rr_21_6, rr_21_7, rr_21_8, rr_27_4, rr_27_5, rr_27_6, rr_27_7, rr_27_8, rr_33_4, rr_33_5, rr_33_6, rr_33_7, rr_33_8, rr_39_4, rr_39_5, rr_39_6, rr_39_7, rr_39_8, rr_45_4, rr_45_5, rr_45_6, rr_45_7, rr_45_8, rr_51_4, rr_51_5, rr_51_6, rr_51_7, rr_51_8, rr_57_4, rr_57_5, rr_57_6, rr_57_7, rr_57_8, rr_63_2, rr_63_3, rr_63_4, rr_63_5, rr_68_0, rr_70_1, rr_70_2, rr_74_4, rr_74_5, rr_74_6, rr_74_7, rr_74_8, rr_80_4, rr_80_5, rr_80_6, rr_80_7, rr_80_8, rr_86_2, rr_88_2, rr_90_2, rr_92_0, rr_92_1, rr_92_5, rr_92_6, rr_92_8, rr_92_9, rr_92_12, rr_92_15, rr_92_16, rr_92_17, hc, nb1, ↓reduceIte, x3 h (by omega), x3 k hk, nI_eq]
      by_cases hq : X h = X k
      · rw [decide_eq_false (not_not_intro hq)] at ih1
        simp (disch := first | assumption | exact bz0 | exact bz1 | exact bzi | omega | decide +kernel) only [I_167_0, I_167_1, I_167_2, I_167_3, I_167_5, I_167_6, I_167_9, I_167_12, I_167_13, I_167_15, I_167_16, I_167_20, I_167_21, I_167_24, I_167_26, I_167_29, I_167_30, I_167_33, I_167_35, I_167_36, I_167_37, I_167_40, I_167_41, I_167_42, I_167_45, I_167_46, I_167_49, I_167_50, I_167_52, I_167_55, I_167_59, I_167_62, I_167_63, I_167_64, I_167_65, I_167_68, I_167_69, I_167_70, I_167_73, I_167_74, I_167_75, I_167_76, I_167_78, I_167_81, I_167_82, I_167_85, I_167_86, I_167_87, I_167_88, I_167_91, I_167_94, I_167_95, hq, ↓reduceIte, nI_add]
        exact ih1
      · rw [decide_eq_true hq] at ih1
        simp (disch := first | assumption | exact bz0 | exact bz1 | exact bzi | omega | decide +kernel) only [I_167_0, I_167_1, I_167_2, I_167_3, I_167_5, I_167_6, I_167_9, I_167_12, I_167_13, I_167_15, I_167_16, I_167_20, I_167_21, I_167_24, I_167_26, I_167_29, I_167_30, I_167_33, I_167_35, I_167_36, I_167_37, I_167_40, I_167_41, I_167_42, I_167_45, I_167_46, I_167_49, I_167_50, I_167_52, I_167_55, I_167_59, I_167_62, I_167_63, I_167_64, I_167_65, I_167_68, I_167_69, I_167_70, I_167_73, I_167_74, I_167_75, I_167_76, I_167_78, I_167_81, I_167_82, I_167_85, I_167_86, I_167_87, I_167_88, I_167_91, I_167_94, I_167_95, hq, ↓reduceIte, nI_add]
        exact ih1
theorem L_treadleOf2 (E : ip_E) {σ : ip_G} {r c i : Nat} {X : Nat → Nat} (hX : MM σ r c X) (hW : WX r c X) (hi : i < r) (κ : Option Value → ip_G → Prop) : ∀ (m k : Nat) (v v2 : Value), k + m = i → wp E 167 4 [.ref 92, .int (nI i), .int (nI (nU X k)), .int (nI k), v, v2] [] σ κ = κ (some (.int (nI (nU X (fF X i m k))))) σ := by
  have hX0 := hX
  have hW0 := hW
  obtain ⟨x1, x2, x3⟩ := hX
  obtain ⟨w1, w2, w3, w4⟩ := hW
  intro m
  induction m with
  | zero =>
    intro k v v2 hk
    have hc : ¬ nI r ≤ nI k := nI_ge (by omega) (by omega)
    have hk2 : k = i := by omega
    subst hk2
    have L := fun n => L_treadleOf1 E hX0 hW0 (k := k) (by omega) (nI k) n κ k 0 (by omega)
    simp only [nwF, b2n_t] at L
    rw [I_167_4]
    simp (disch := first | assumption | exact bz0 | exact bz1 | exact bzi | omega | decide +kernel) only [I_167_0, I_167_1, I_167_2, I_167_3, I_167_5, I_167_6, I_167_9, I_167_12, I_167_13, I_167_15, I_167_16, I_167_20, I_167_21, I_167_24, I_167_26, I_167_29, I_167_30, I_167_33, I_167_35, I_167_36, I_167_37, I_167_40, I_167_41, I_167_42, I_167_45, I_167_46, I_167_49, I_167_50, I_167_52, I_167_55, I_167_59, I_167_62, I_167_63, I_167_64, I_167_65, I_167_68, I_167_69, I_167_70, I_167_73, I_167_74, I_167_75, I_167_76, I_167_78, I_167_81, I_167_82, I_167_85, I_167_86, I_167_87, I_167_88, I_167_91, I_167_94, I_167_95, x1, hc, ↓reduceIte]
    rw [L]
    simp (disch := first | assumption | exact bz0 | exact bz1 | exact bzi | omega | decide +kernel) only [I_167_0, I_167_1, I_167_2, I_167_3, I_167_5, I_167_6, I_167_9, I_167_12, I_167_13, I_167_15, I_167_16, I_167_20, I_167_21, I_167_24, I_167_26, I_167_29, I_167_30, I_167_33, I_167_35, I_167_36, I_167_37, I_167_40, I_167_41, I_167_42, I_167_45, I_167_46, I_167_49, I_167_50, I_167_52, I_167_55, I_167_58, I_167_59, I_167_62, I_167_63, I_167_64, I_167_65, I_167_68, I_167_69, I_167_70, I_167_73, I_167_74, I_167_75, I_167_76, I_167_78, I_167_81, I_167_82, I_167_85, I_167_86, I_167_87, I_167_88, I_167_91, I_167_94, I_167_95, rr_0_0, rr_0_1, rr_0_2, rr_0_3, rr_0_4, rr_0_5, rr_0_6, rr_0_7, rr_0_8, rr_1_0, rr_1_1, rr_1_2, rr_1_3, rr_2_4, rr_2_5, rr_2_6, rr_2_7, rr_2_8, rr_13_0, rr_15_4, rr_15_5, rr_15_6, rr_15_7, rr_15_8, rr_21_4, rr_21_5, rr_21_6, rr_21_7, rr_21_8, rr_27_4, rr_27_5, rr_27_6, rr_27_7, rr_27_8, rr_33_4, rr_33_5, rr_33_6, rr_33_7, rr_33_8, rr_39_4, rr_39_5, rr_39_6, rr_39_7, rr_39_8, rr_45_4, rr_45_5, rr_45_6, rr_45_7, rr_45_8, rr_51_4, rr_51_5, rr_51_6, rr_51_7, rr_51_8, rr_57_4, rr_57_5, rr_57_6, rr_57_7, rr_57_8, rr_63_2, rr_63_3, rr_63_4, rr_63_5, rr_68_0, rr_70_1, rr_70_2, rr_74_4, rr_74_5, rr_74_6, rr_74_7, rr_74_8, rr_80_4, rr_80_5, rr_80_6, rr_80_7, rr_80_8, rr_86_2, rr_88_2, rr_90_2, rr_92_0, rr_92_1, rr_92_5, rr_92_6, rr_92_8, rr_92_9, rr_92_12, rr_92_15, rr_92_16, rr_92_17, x3 k hi, not_true_eq_false, ↓reduceIte, fF]
  | succ m ih =>
    intro k v v2 hk
    have hc : ¬ nI r ≤ nI k := nI_ge (by omega) (by omega)
    have L := fun n => L_treadleOf1 E hX0 hW0 (k := k) (by omega) (nI i) n κ k 0 (by omega)
    simp only [nwF, b2n_t] at L
    have b1 := w4 i hi
    have b2 := w4 k (by omega)
    rw [I_167_4]
    simp (disch := first | assumption | exact bz0 | exact bz1 | exact bzi | omega | decide +kernel) only [I_167_0, I_167_1, I_167_2, I_167_3, I_167_5, I_167_6, I_167_9, I_167_12, I_167_13, I_167_15, I_167_16, I_167_20, I_167_21, I_167_24, I_167_26, I_167_29, I_167_30, I_167_33, I_167_35, I_167_36, I_167_37, I_167_40, I_167_41, I_167_42, I_167_45, I_167_46, I_167_49, I_167_50, I_167_52, I_167_55, I_167_59, I_167_62, I_167_63, I_167_64, I_167_65, I_167_68, I_167_69, I_167_70, I_167_73, I_167_74, I_167_75, I_167_76, I_167_78, I_167_81, I_167_82, I_167_85, I_167_86, I_167_87, I_167_88, I_167_91, I_167_94, I_167_95, x1, hc, ↓reduceIte]
    rw [L]
    simp (disch := first | assumption | exact bz0 | exact bz1 | exact bzi | omega | decide +kernel) only [I_167_0, I_167_1, I_167_2, I_167_3, I_167_5, I_167_6, I_167_9, I_167_12, I_167_13, I_167_15, I_167_16, I_167_20, I_167_21, I_167_24, I_167_26, I_167_29, I_167_30, I_167_33, I_167_35, I_167_36, I_167_37, I_167_40, I_167_41, I_167_42, I_167_45, I_167_46, I_167_49, I_167_50, I_167_52, I_167_55, I_167_58, I_167_59, I_167_62, I_167_63, I_167_64, I_167_65, I_167_68, I_167_69, I_167_70, I_167_73, I_167_74, I_167_75, I_167_76, I_167_78, I_167_81, I_167_82, I_167_85, I_167_86, I_167_87, I_167_88, I_167_91, I_167_94, I_167_95, rr_0_0, rr_0_1, rr_0_2, rr_0_3, rr_0_4, rr_0_5, rr_0_6, rr_0_7, rr_0_8, rr_1_0, rr_1_1, rr_1_2, rr_1_3, rr_2_4, rr_2_5, rr_2_6, rr_2_7, rr_2_8, rr_13_0, rr_15_4, rr_15_5, rr_15_6, rr_15_7, rr_15_8, rr_21_4, rr_21_5, rr_21_6, rr_21_7, rr_21_8, rr_27_4, rr_27_5, rr_27_6, rr_27_7, rr_27_8, rr_33_4, rr_33_5, rr_33_6, rr_33_7, rr_33_8, rr_39_4, rr_39_5, rr_39_6, rr_39_7, rr_39_8, rr_45_4, rr_45_5, rr_45_6, rr_45_7, rr_45_8, rr_51_4, rr_51_5, rr_51_6, rr_51_7, rr_51_8, rr_57_4, rr_57_5, rr_57_6, rr_57_7, rr_57_8, rr_63_2, rr_63_3, rr_63_4, rr_63_5, rr_68_0, rr_70_1, rr_70_2, rr_74_4, rr_74_5, rr_74_6, rr_74_7, rr_74_8, rr_80_4, rr_80_5, rr_80_6, rr_80_7, rr_80_8, rr_86_2, rr_88_2, rr_90_2, rr_92_0, rr_92_1, rr_92_5, rr_92_6, rr_92_8, rr_92_9, rr_92_12, rr_92_15, rr_92_16, rr_92_17, x3 k (by omega), x3 i hi, nI_eq]
    by_cases h : X k = X i
    · simp (disch := first | assumption | exact bz0 | exact bz1 | exact bzi | omega | decide +kernel) only [I_167_0, I_167_1, I_167_2, I_167_3, I_167_5, I_167_6, I_167_9, I_167_12, I_167_13, I_167_15, I_167_16, I_167_20, I_167_21, I_167_24, I_167_26, I_167_29, I_167_30, I_167_33, I_167_35, I_167_36, I_167_37, I_167_40, I_167_41, I_167_42, I_167_45, I_167_46, I_167_49, I_167_50, I_167_52, I_167_55, I_167_58, I_167_59, I_167_62, I_167_63, I_167_64, I_167_65, I_167_68, I_167_69, I_167_70, I_167_73, I_167_74, I_167_75, I_167_76, I_167_78, I_167_81, I_167_82, I_167_85, I_167_86, I_167_87, I_167_88, I_167_91, I_167_94, I_167_95, h, not_true_eq_false, ↓reduceIte, fF]
    · cases hw : nwF X k k with
      | true =>
        simp (disch := first | assumption | exact bz0 | exact bz1 | exact bzi | omega | decide +kernel) only [I_167_0, I_167_1, I_167_2, I_167_3, I_167_5, I_167_6, I_167_9, I_167_12, I_167_13, I_167_15, I_167_16, I_167_20, I_167_21, I_167_24, I_167_26, I_167_29, I_167_30, I_167_33, I_167_35, I_167_36, I_167_37, I_167_40, I_167_41, I_167_42, I_167_45, I_167_46, I_167_49, I_167_50, I_167_52, I_167_55, I_167_58, I_167_59, I_167_62, I_167_63, I_167_64, I_167_65, I_167_68, I_167_69, I_167_70, I_167_73, I_167_74, I_167_75, I_167_76, I_167_78, I_167_81, I_167_82, I_167_85, I_167_86, I_167_87, I_167_88, I_167_91, I_167_94, I_167_95, h, nb1, not_false_eq_true, ↓reduceIte, nI_add]
        rw [← nU_new hw, ih (k + 1) _ _ (by omega)]
        simp only [fF, h, ↓reduceIte]
      | false =>
        simp (disch := first | assumption | exact bz0 | exact bz1 | exact bzi | omega | decide +kernel) only [I_167_0, I_167_1, I_167_2, I_167_3, I_167_5, I_167_6, I_167_9, I_167_12, I_167_13, I_167_15, I_167_16, I_167_20, I_167_21, I_167_24, I_167_26, I_167_29, I_167_30, I_167_33, I_167_35, I_167_36, I_167_37, I_167_40, I_167_41, I_167_42, I_167_45, I_167_46, I_167_49, I_167_50, I_167_52, I_167_55, I_167_58, I_167_59, I_167_62, I_167_63, I_167_64, I_167_65, I_167_68, I_167_69, I_167_70, I_167_73, I_167_74, I_167_75, I_167_76, I_167_78, I_167_81, I_167_82, I_167_85, I_167_86, I_167_87, I_167_88, I_167_91, I_167_94, I_167_95, h, nb0, not_false_eq_true, ↓reduceIte, nI_add, Nat.add_zero]
        rw [← nU_old hw, ih (k + 1) _ _ (by omega)]
        simp only [fF, h, ↓reduceIte]
theorem m_treadleOf (E : ip_E) {σ : ip_G} {r c i : Nat} {X : Nat → Nat} (hX : MM σ r c X) (hW : WX r c X) (hi : i < r) (κ : Option Value → ip_G → Prop) : wp E 167 0 [.ref 92, .int (nI i), .retAddr 0, .retAddr 0, .retAddr 0, .retAddr 0] [] σ κ = κ (some (.int (nI (nb X i)))) σ := by
  simp only [I_167_0, I_167_1, I_167_2, I_167_3, I_167_5, I_167_6, I_167_9, I_167_12, I_167_13, I_167_15, I_167_16, I_167_18, I_167_20, I_167_21, I_167_24, I_167_26, I_167_29, I_167_30, I_167_33, I_167_35, I_167_36, I_167_37, I_167_40, I_167_41, I_167_42, I_167_45, I_167_46, I_167_49, I_167_50, I_167_52, I_167_55, I_167_58, I_167_59, I_167_62, I_167_63, I_167_64, I_167_65, I_167_68, I_167_69, I_167_70, I_167_73, I_167_74, I_167_75, I_167_76, I_167_78, I_167_81, I_167_82, I_167_85, I_167_86, I_167_87, I_167_88, I_167_91, I_167_94, I_167_95]
  exact L_treadleOf2 E hX hW hi κ i 0 _ _ (by omega)
theorem L_leastS (E : ip_E) {σ : ip_G} {r c : Nat} {X : Nat → Nat} (hX : MM σ r c X) (hW : WX r c X) (κ : Option Value → ip_G → Prop) : ∀ (m i : Nat), i + m = c → wp E 163 4 [.ref 92, .int (nI (nU (colX X r) i)), .int (nI i)] [] σ κ = κ (some (.int (nI (shX X r c)))) σ := by
  have w2 := hW.2.1
  have x2 := hX.2.1
  intro m
  induction m with
  | zero =>
    intro i hi
    have hc : nI c ≤ nI i := nI_le (by omega) (by omega)
    have : i = c := by omega
    subst this
    simp (disch := first | assumption | exact bz0 | exact bz1 | exact bzi | omega | decide +kernel) only [I_163_0, I_163_1, I_163_2, I_163_3, I_163_4, I_163_5, I_163_6, I_163_9, I_163_12, I_163_13, I_163_14, I_163_17, I_163_18, I_163_21, I_163_22, I_163_23, I_163_26, I_163_27, I_163_28, I_163_31, I_163_32, I_163_33, I_163_36, I_163_39, I_163_40, x2, hc, ↓reduceIte]
    rfl
  | succ m ih =>
    intro i hi
    have hc : ¬ nI c ≤ nI i := nI_ge (by omega) (by omega)
    have u1 := nU_le (colX X r) i
    have u2 := nb_lt (t := colX X r) (show i < i + 1 by omega)
    have u3 := nU_le (colX X r) (i + 1)
    rw [I_163_4]
    cases hw : nwF (colX X r) i i with
    | true =>
      have hn := nb_new hw
      have hlt : ¬ nI (nU (colX X r) i) < nI (nU (colX X r) i) := nI_nlt (by omega) (by omega)
      simp (disch := first | assumption | exact bz0 | exact bz1 | exact bzi | omega | decide +kernel) only [I_163_0, I_163_1, I_163_2, I_163_3, I_163_5, I_163_6, I_163_9, I_163_12, I_163_13, I_163_14, I_163_17, I_163_18, I_163_21, I_163_22, I_163_23, I_163_26, I_163_27, I_163_28, I_163_31, I_163_32, I_163_33, I_163_36, I_163_39, I_163_40, x2, hc, ↓reduceIte, m_shaftOf E hX hW (show i < c by omega), Option.toList_some, List.cons_append, List.nil_append, hn, hlt, nI_add]
      rw [← nU_new hw]
      exact ih (i + 1) (by omega)
    | false =>
      have ho := nU_old hw
      have hlt : nI (nb (colX X r) i) < nI (nU (colX X r) i) := nI_lt (by omega) (by omega)
      simp (disch := first | assumption | exact bz0 | exact bz1 | exact bzi | omega | decide +kernel) only [I_163_0, I_163_1, I_163_2, I_163_3, I_163_5, I_163_6, I_163_9, I_163_12, I_163_13, I_163_14, I_163_17, I_163_18, I_163_21, I_163_22, I_163_23, I_163_26, I_163_27, I_163_28, I_163_31, I_163_32, I_163_33, I_163_36, I_163_39, I_163_40, x2, hc, ↓reduceIte, m_shaftOf E hX hW (show i < c by omega), Option.toList_some, List.cons_append, List.nil_append, hlt, nI_add]
      rw [← ho]
      exact ih (i + 1) (by omega)
theorem m_leastShafts (E : ip_E) {σ : ip_G} {r c : Nat} {X : Nat → Nat} (hX : MM σ r c X) (hW : WX r c X) (κ : Option Value → ip_G → Prop) : wp E 163 0 [.ref 92, .retAddr 0, .retAddr 0] [] σ κ = κ (some (.int (nI (shX X r c)))) σ := by
  simp only [I_163_0, I_163_1, I_163_2, I_163_3, I_163_5, I_163_6, I_163_9, I_163_12, I_163_13, I_163_14, I_163_17, I_163_18, I_163_21, I_163_22, I_163_23, I_163_26, I_163_27, I_163_28, I_163_31, I_163_32, I_163_33, I_163_36, I_163_39, I_163_40]
  exact L_leastS E hX hW κ c 0 (by omega)
theorem L_leastT (E : ip_E) {σ : ip_G} {r c : Nat} {X : Nat → Nat} (hX : MM σ r c X) (hW : WX r c X) (κ : Option Value → ip_G → Prop) : ∀ (m i : Nat), i + m = r → wp E 166 4 [.ref 92, .int (nI (nU X i)), .int (nI i)] [] σ κ = κ (some (.int (nI (trX X r)))) σ := by
  have w2 := hW.1
  have x2 := hX.1
  intro m
  induction m with
  | zero =>
    intro i hi
    have hc : nI r ≤ nI i := nI_le (by omega) (by omega)
    have : i = r := by omega
    subst this
    simp (disch := first | assumption | exact bz0 | exact bz1 | exact bzi | omega | decide +kernel) only [I_166_0, I_166_1, I_166_2, I_166_3, I_166_4, I_166_5, I_166_6, I_166_9, I_166_12, I_166_13, I_166_14, I_166_17, I_166_18, I_166_21, I_166_22, I_166_23, I_166_26, I_166_27, I_166_28, I_166_31, I_166_32, I_166_33, I_166_36, I_166_39, I_166_40, x2, hc, ↓reduceIte]
    rfl
  | succ m ih =>
    intro i hi
    have hc : ¬ nI r ≤ nI i := nI_ge (by omega) (by omega)
    have u1 := nU_le X i
    have u2 := nb_lt (t := X) (show i < i + 1 by omega)
    have u3 := nU_le X (i + 1)
    rw [I_166_4]
    cases hw : nwF X i i with
    | true =>
      have hn := nb_new hw
      have hlt : ¬ nI (nU X i) < nI (nU X i) := nI_nlt (by omega) (by omega)
      simp (disch := first | assumption | exact bz0 | exact bz1 | exact bzi | omega | decide +kernel) only [I_166_0, I_166_1, I_166_2, I_166_3, I_166_5, I_166_6, I_166_9, I_166_12, I_166_13, I_166_14, I_166_17, I_166_18, I_166_21, I_166_22, I_166_23, I_166_26, I_166_27, I_166_28, I_166_31, I_166_32, I_166_33, I_166_36, I_166_39, I_166_40, x2, hc, ↓reduceIte, m_treadleOf E hX hW (show i < r by omega), Option.toList_some, List.cons_append, List.nil_append, hn, hlt, nI_add]
      rw [← nU_new hw]
      exact ih (i + 1) (by omega)
    | false =>
      have ho := nU_old hw
      have hlt : nI (nb X i) < nI (nU X i) := nI_lt (by omega) (by omega)
      simp (disch := first | assumption | exact bz0 | exact bz1 | exact bzi | omega | decide +kernel) only [I_166_0, I_166_1, I_166_2, I_166_3, I_166_5, I_166_6, I_166_9, I_166_12, I_166_13, I_166_14, I_166_17, I_166_18, I_166_21, I_166_22, I_166_23, I_166_26, I_166_27, I_166_28, I_166_31, I_166_32, I_166_33, I_166_36, I_166_39, I_166_40, x2, hc, ↓reduceIte, m_treadleOf E hX hW (show i < r by omega), Option.toList_some, List.cons_append, List.nil_append, hlt, nI_add]
      rw [← ho]
      exact ih (i + 1) (by omega)
theorem m_leastTreadles (E : ip_E) {σ : ip_G} {r c : Nat} {X : Nat → Nat} (hX : MM σ r c X) (hW : WX r c X) (κ : Option Value → ip_G → Prop) : wp E 166 0 [.ref 92, .retAddr 0, .retAddr 0] [] σ κ = κ (some (.int (nI (trX X r)))) σ := by
  simp only [I_166_0, I_166_1, I_166_2, I_166_3, I_166_5, I_166_6, I_166_9, I_166_12, I_166_13, I_166_14, I_166_17, I_166_18, I_166_21, I_166_22, I_166_23, I_166_26, I_166_27, I_166_28, I_166_31, I_166_32, I_166_33, I_166_36, I_166_39, I_166_40]
  exact L_leastT E hX hW κ r 0 (by omega)
theorem L_msA (E : ip_E) {σ : ip_G} (s t : Int32) (κ : Option Value → ip_G → Prop) : ∀ (m i : Nat) (σ' : ip_G), i + m = 6 → (∀ j, j < i → σ' 93 (16 + j) = nI 0) → (∀ j, j < 16 ∨ 22 ≤ j → σ' 93 j = σ 93 j) → (∀ k, k ≠ 93 → σ' k = σ k) → (∀ σ2, (∀ j, j < 6 → σ2 93 (16 + j) = nI 0) → (∀ j, j < 16 ∨ 22 ≤ j → σ2 93 j = σ 93 j) → (∀ k, k ≠ 93 → σ2 k = σ k) → wp E 162 74 [.ref 92, .int s, .int t, .int (nI 6), .retAddr 0] [] σ2 κ) → wp E 162 52 [.ref 92, .int s, .int t, .int (nI i), .retAddr 0] [] σ' κ := by
  intro m
  induction m with
  | zero =>
    intro i σ' hi h1 h2 h3 hk
    have hi2 : i = 6 := by omega
    subst hi2
    have hc : nI 6 ≤ nI 6 := nI_le (by omega) (by omega)
    simp (disch := first | assumption | exact bz0 | exact bz1 | exact bzi | omega | decide +kernel) only [I_162_0, I_162_1, I_162_4, I_162_5, I_162_6, I_162_9, I_162_10, I_162_11, I_162_14, I_162_17, I_162_18, I_162_20, I_162_23, I_162_24, I_162_26, I_162_29, I_162_31, I_162_32, I_162_33, I_162_36, I_162_37, I_162_38, I_162_41, I_162_42, I_162_45, I_162_46, I_162_47, I_162_50, I_162_51, I_162_52, I_162_53, I_162_55, I_162_58, I_162_59, I_162_62, I_162_64, I_162_65, I_162_66, I_162_67, I_162_68, I_162_71, I_162_75, I_162_77, I_162_78, I_162_81, I_162_84, I_162_85, I_162_88, I_162_89, I_162_90, I_162_91, I_162_92, I_162_93, I_162_96, I_162_97, I_162_100, I_162_103, I_162_104, I_162_106, I_162_107, I_162_110, I_162_113, I_162_114, I_162_117, I_162_119, I_162_120, I_162_121, I_162_122, I_162_123, I_162_126, I_162_127, I_162_128, I_162_132, I_162_133, I_162_136, I_162_139, I_162_140, I_162_143, I_162_145, I_162_146, I_162_147, I_162_150, I_162_151, I_162_152, I_162_153, I_162_154, I_162_157, I_162_158, I_162_159, I_162_161, I_162_164, I_162_167, I_162_168, I_162_169, I_162_171, I_162_174, I_162_175, I_162_178, I_162_179, I_162_180, I_162_181, I_162_184, I_162_187, I_162_190, I_162_193, I_162_194, hc, ↓reduceIte]
    exact hk σ' h1 h2 h3
  | succ m ih =>
    intro i σ' hi h1 h2 h3 hk
    have hc : ¬ nI 6 ≤ nI i := nI_ge (by omega) (by omega)
    rw [I_162_52]
    simp (disch := first | assumption | exact bz0 | exact bz1 | exact bzi | omega | decide +kernel) only [I_162_0, I_162_1, I_162_4, I_162_5, I_162_6, I_162_9, I_162_10, I_162_11, I_162_14, I_162_17, I_162_18, I_162_20, I_162_23, I_162_24, I_162_26, I_162_29, I_162_31, I_162_32, I_162_33, I_162_36, I_162_37, I_162_38, I_162_41, I_162_42, I_162_45, I_162_46, I_162_47, I_162_50, I_162_51, I_162_53, I_162_55, I_162_58, I_162_59, I_162_62, I_162_64, I_162_65, I_162_66, I_162_67, I_162_68, I_162_71, I_162_75, I_162_77, I_162_78, I_162_81, I_162_84, I_162_85, I_162_88, I_162_89, I_162_90, I_162_91, I_162_92, I_162_93, I_162_96, I_162_97, I_162_100, I_162_103, I_162_104, I_162_106, I_162_107, I_162_110, I_162_113, I_162_114, I_162_117, I_162_119, I_162_120, I_162_121, I_162_122, I_162_123, I_162_126, I_162_127, I_162_128, I_162_132, I_162_133, I_162_136, I_162_139, I_162_140, I_162_143, I_162_145, I_162_146, I_162_147, I_162_150, I_162_151, I_162_152, I_162_153, I_162_154, I_162_157, I_162_158, I_162_159, I_162_161, I_162_164, I_162_167, I_162_168, I_162_169, I_162_171, I_162_174, I_162_175, I_162_178, I_162_179, I_162_180, I_162_181, I_162_184, I_162_187, I_162_190, I_162_193, I_162_194, rr_0_0, rr_0_1, rr_0_2, rr_0_3, rr_0_4, rr_0_5, rr_0_6, rr_0_7, rr_0_8, rr_1_0, rr_1_1, rr_1_2, rr_1_3, rr_2_4, rr_2_5, rr_2_6, rr_2_7, rr_2_8, rr_13_0, rr_15_4, rr_15_5, rr_15_6, rr_15_7, rr_15_8, rr_21_4, rr_21_5, rr_21_6, rr_21_7, rr_21_8, rr_27_4, rr_27_5, rr_27_6, rr_27_7, rr_27_8, rr_33_4, rr_33_5, rr_33_6, rr_33_7, rr_33_8, rr_39_4, rr_39_5, rr_39_6, rr_39_7, rr_39_8, rr_45_4, rr_45_5, rr_45_6, rr_45_7, rr_45_8, rr_51_4, rr_51_5, rr_51_6, rr_51_7, rr_51_8, rr_57_4, rr_57_5, rr_57_6, rr_57_7, rr_57_8, rr_63_2, rr_63_3, rr_63_4, rr_63_5, rr_68_0, rr_70_1, rr_70_2, rr_74_4, rr_74_5, rr_74_6, rr_74_7, rr_74_8, rr_80_4, rr_80_5, rr_80_6, rr_80_7, rr_80_8, rr_86_2, rr_88_2, rr_90_2, rr_92_0, rr_92_1, rr_92_5, rr_92_6, rr_92_8, rr_92_9, rr_92_12, rr_92_15, rr_92_16, rr_92_17, hc, ↓reduceIte, nI_add]
    refine ih (i + 1) _ (by omega) (fun j hj => ?_) (fun j hj => by rw [u2_i (by omega)]; exact h2 j hj) (fun k hk2 => by rw [u2_f hk2]; exact h3 k hk2) hk
    by_cases e : j = i
    · subst e; rw [u2_s]
    · rw [u2_i (by omega)]; exact h1 j (by omega)
theorem L_msB (E : ip_E) {σ : ip_G} {r c : Nat} {X : Nat → Nat} (hX : MM σ r c X) (hW : WX r c X) (s t : Int32) (κ : Option Value → ip_G → Prop) : ∀ (m i : Nat) (σ' : ip_G), i + m = c → (∀ j, j < i → σ' 93 (4 + j) = nI (nb (colX X r) j)) → (∀ j, j < 4 ∨ 4 + i ≤ j → σ' 93 j = σ 93 j) → (∀ k, k ≠ 93 → σ' k = σ k) → (∀ σ2, (∀ j, j < c → σ2 93 (4 + j) = nI (nb (colX X r) j)) → (∀ j, j < 4 ∨ 4 + c ≤ j → σ2 93 j = σ 93 j) → (∀ k, k ≠ 93 → σ2 k = σ k) → wp E 162 103 [.ref 92, .int s, .int t, .int (nI c), .retAddr 0] [] σ2 κ) → wp E 162 76 [.ref 92, .int s, .int t, .int (nI i), .retAddr 0] [] σ' κ := by
  have w2 := hW.2.1
  intro m
  induction m with
  | zero =>
    intro i σ' hi h1 h2 h3 hk
    have hi2 : i = c := by omega
    subst hi2
    have hc : nI i ≤ nI i := nI_le (by omega) (by omega)
    have z1 : σ' 92 3 = nI i := by rw [h3 92 (by omega)]; exact hX.2.1
    simp (disch := first | assumption | exact bz0 | exact bz1 | exact bzi | omega | decide +kernel) only [I_162_0, I_162_1, I_162_4, I_162_5, I_162_6, I_162_9, I_162_10, I_162_11, I_162_14, I_162_17, I_162_18, I_162_20, I_162_23, I_162_24, I_162_26, I_162_29, I_162_31, I_162_32, I_162_33, I_162_36, I_162_37, I_162_38, I_162_41, I_162_42, I_162_45, I_162_46, I_162_47, I_162_50, I_162_51, I_162_53, I_162_55, I_162_58, I_162_59, I_162_62, I_162_64, I_162_65, I_162_66, I_162_67, I_162_68, I_162_71, I_162_74, I_162_75, I_162_76, I_162_77, I_162_78, I_162_81, I_162_84, I_162_85, I_162_88, I_162_89, I_162_90, I_162_91, I_162_92, I_162_93, I_162_96, I_162_97, I_162_100, I_162_104, I_162_106, I_162_107, I_162_110, I_162_113, I_162_114, I_162_117, I_162_119, I_162_120, I_162_121, I_162_122, I_162_123, I_162_126, I_162_127, I_162_128, I_162_132, I_162_133, I_162_136, I_162_139, I_162_140, I_162_143, I_162_145, I_162_146, I_162_147, I_162_150, I_162_151, I_162_152, I_162_153, I_162_154, I_162_157, I_162_158, I_162_159, I_162_161, I_162_164, I_162_167, I_162_168, I_162_169, I_162_171, I_162_174, I_162_175, I_162_178, I_162_179, I_162_180, I_162_181, I_162_184, I_162_187, I_162_190, I_162_193, I_162_194, z1, hc, ↓reduceIte]
    exact hk σ' h1 h2 h3
  | succ m ih =>
    intro i σ' hi h1 h2 h3 hk
    have hc : ¬ nI c ≤ nI i := nI_ge (by omega) (by omega)
    have hX' : MM σ' r c X := MM_fr hX (by rw [h3 92 (by omega)]) (by rw [h3 92 (by omega)]) (h3 94 (by omega))
    rw [I_162_76]
    simp (disch := first | assumption | exact bz0 | exact bz1 | exact bzi | omega | decide +kernel) only [I_162_0, I_162_1, I_162_4, I_162_5, I_162_6, I_162_9, I_162_10, I_162_11, I_162_14, I_162_17, I_162_18, I_162_20, I_162_23, I_162_24, I_162_26, I_162_29, I_162_31, I_162_32, I_162_33, I_162_36, I_162_37, I_162_38, I_162_41, I_162_42, I_162_45, I_162_46, I_162_47, I_162_50, I_162_51, I_162_53, I_162_55, I_162_58, I_162_59, I_162_62, I_162_64, I_162_65, I_162_66, I_162_67, I_162_68, I_162_71, I_162_74, I_162_75, I_162_77, I_162_78, I_162_81, I_162_84, I_162_85, I_162_88, I_162_89, I_162_90, I_162_91, I_162_92, I_162_93, I_162_96, I_162_97, I_162_100, I_162_104, I_162_106, I_162_107, I_162_110, I_162_113, I_162_114, I_162_117, I_162_119, I_162_120, I_162_121, I_162_122, I_162_123, I_162_126, I_162_127, I_162_128, I_162_132, I_162_133, I_162_136, I_162_139, I_162_140, I_162_143, I_162_145, I_162_146, I_162_147, I_162_150, I_162_151, I_162_152, I_162_153, I_162_154, I_162_157, I_162_158, I_162_159, I_162_161, I_162_164, I_162_167, I_162_168, I_162_169, I_162_171, I_162_174, I_162_175, I_162_178, I_162_179, I_162_180, I_162_181, I_162_184, I_162_187, I_162_190, I_162_193, I_162_194, rr_0_0, rr_0_1, rr_0_2, rr_0_3, rr_0_4, rr_0_5, rr_0_6, rr_0_7, rr_0_8, rr_1_0, rr_1_1, rr_1_2, rr_1_3, rr_2_4, rr_2_5, rr_2_6, rr_2_7, rr_2_8, rr_13_0, rr_15_4, rr_15_5, rr_15_6, rr_15_7, rr_15_8, rr_21_4, rr_21_5, rr_21_6, rr_21_7, rr_21_8, rr_27_4, rr_27_5, rr_27_6, rr_27_7, rr_27_8, rr_33_4, rr_33_5, rr_33_6, rr_33_7, rr_33_8, rr_39_4, rr_39_5, rr_39_6, rr_39_7, rr_39_8, rr_45_4, rr_45_5, rr_45_6, rr_45_7, rr_45_8, rr_51_4, rr_51_5, rr_51_6, rr_51_7, rr_51_8, rr_57_4, rr_57_5, rr_57_6, rr_57_7, rr_57_8, rr_63_2, rr_63_3, rr_63_4, rr_63_5, rr_68_0, rr_70_1, rr_70_2, rr_74_4, rr_74_5, rr_74_6, rr_74_7, rr_74_8, rr_80_4, rr_80_5, rr_80_6, rr_80_7, rr_80_8, rr_86_2, rr_88_2, rr_90_2, rr_92_0, rr_92_1, rr_92_5, rr_92_6, rr_92_8, rr_92_9, rr_92_12, rr_92_15, rr_92_16, rr_92_17, hX'.2.1, hc, ↓reduceIte, nI_add, m_shaftOf E hX' hW (show i < c by omega), Option.toList_some, List.cons_append, List.nil_append]
    refine ih (i + 1) _ (by omega) (fun j hj => ?_) (fun j hj => by rw [u2_i (by omega)]; exact h2 j (by omega)) (fun k hk2 => by rw [u2_f hk2]; exact h3 k hk2) hk
    by_cases e : j = i
    · subst e; rw [u2_s]
    · rw [u2_i (by omega)]; exact h1 j (by omega)
def sG (X : Nat → Nat) (r q : Nat) : Nat → Nat := fun i => if (X q).testBit i = true then 2 ^ nb (colX X r) i else 0
theorem L_msC (E : ip_E) {σ : ip_G} {r c q : Nat} {X : Nat → Nat} (hX : MM σ r c X) (hW : WX r c X) (hq : q < r) (ht : trX X r ≤ 6) (s t : Int32) (old : Nat) (κ : Option Value → ip_G → Prop) : ∀ (m i : Nat), i + m = c → wp E 162 130 [.ref 92, .int s, .int t, .int (nI q), .int (nI i)] [] (ip_u2 σ 93 (16 + nb X q) (nI (old ||| orF (sG X r q) i))) κ = wp E 162 187 [.ref 92, .int s, .int t, .int (nI q), .int (nI c)] [] (ip_u2 σ 93 (16 + nb X q) (nI (old ||| sU X r c q))) κ := by
  have w2 := hW.2.1
  have w1 := hW.1
  have hnq : nb X q < 6 := by
    have h1 := nb_lt (t := X) hq
    have h2 : nU X r ≤ 6 := ht
    omega
  intro m
  induction m with
  | zero =>
    intro i hi
    have hi2 : i = c := by omega
    subst hi2
    have hc : nI i ≤ nI i := nI_le (by omega) (by omega)
    have z1 : (ip_u2 σ 93 (16 + nb X q) (nI (old ||| orF (sG X r q) i))) 92 3 = nI i := by rw [u2_k (by omega)]; exact hX.2.1
    simp (disch := first | assumption | exact bz0 | exact bz1 | exact bzi | omega | decide +kernel) only [I_162_0, I_162_1, I_162_4, I_162_5, I_162_6, I_162_9, I_162_10, I_162_11, I_162_14, I_162_17, I_162_18, I_162_20, I_162_23, I_162_24, I_162_26, I_162_29, I_162_31, I_162_32, I_162_33, I_162_36, I_162_37, I_162_38, I_162_41, I_162_42, I_162_45, I_162_46, I_162_47, I_162_50, I_162_51, I_162_53, I_162_55, I_162_58, I_162_59, I_162_62, I_162_64, I_162_65, I_162_66, I_162_67, I_162_68, I_162_71, I_162_74, I_162_75, I_162_77, I_162_78, I_162_81, I_162_84, I_162_85, I_162_88, I_162_89, I_162_90, I_162_91, I_162_92, I_162_93, I_162_96, I_162_97, I_162_100, I_162_103, I_162_104, I_162_106, I_162_107, I_162_110, I_162_113, I_162_114, I_162_117, I_162_119, I_162_120, I_162_121, I_162_122, I_162_123, I_162_126, I_162_127, I_162_128, I_162_130, I_162_132, I_162_133, I_162_136, I_162_139, I_162_140, I_162_143, I_162_145, I_162_146, I_162_147, I_162_150, I_162_151, I_162_152, I_162_153, I_162_154, I_162_157, I_162_158, I_162_159, I_162_161, I_162_164, I_162_167, I_162_168, I_162_169, I_162_171, I_162_174, I_162_175, I_162_178, I_162_179, I_162_180, I_162_181, I_162_184, I_162_190, I_162_193, I_162_194, z1, hc, ↓reduceIte]
    rfl
  | succ m ih =>
    intro i hi
    have hc : ¬ nI c ≤ nI i := nI_ge (by omega) (by omega)
    have hX' : MM (ip_u2 σ 93 (16 + nb X q) (nI (old ||| orF (sG X r q) i))) r c X := MM_fr hX (by rw [u2_k (by omega)]) (by rw [u2_k (by omega)]) (by rw [u2_f (by omega)])
    have hnb : nb (colX X r) i < 31 := by
      have h1 := nb_lt (t := colX X r) (show i < c by omega)
      have h2 := nU_le (colX X r) c
      omega
    have e1 : orF (sG X r q) (i + 1) = orF (sG X r q) i ||| (if (X q).testBit i = true then 2 ^ nb (colX X r) i else 0) := rfl
    have ih1 := ih (i + 1) (by omega)
    rw [e1] at ih1
    rw [I_162_130]
    simp (disch := first | assumption | exact bz0 | exact bz1 | exact bzi | omega | decide +kernel) only [I_162_0, I_162_1, I_162_4, I_162_5, I_162_6, I_162_9, I_162_10, I_162_11, I_162_14, I_162_17, I_162_18, I_162_20, I_162_23, I_162_24, I_162_26, I_162_29, I_162_31, I_162_32, I_162_33, I_162_36, I_162_37, I_162_38, I_162_41, I_162_42, I_162_45, I_162_46, I_162_47, I_162_50, I_162_51, I_162_53, I_162_55, I_162_58, I_162_59, I_162_62, I_162_64, I_162_65, I_162_66, I_162_67, I_162_68, I_162_71, I_162_74, I_162_75, I_162_77, I_162_78, I_162_81, I_162_84, I_162_85, I_162_88, I_162_89, I_162_90, I_162_91, I_162_92, I_162_93, I_162_96, I_162_97, I_162_100, I_162_103, I_162_104, I_162_106, I_162_107, I_162_110, I_162_113, I_162_114, I_162_117, I_162_119, I_162_120, I_162_121, I_162_122, I_162_123, I_162_126, I_162_127, I_162_128, I_162_132, I_162_133, I_162_136, I_162_139, I_162_140, I_162_143, I_162_145, I_162_146, I_162_147, I_162_150, I_162_151, I_162_152, I_162_153, I_162_154, I_162_157, I_162_158, I_162_159, I_162_161, I_162_164, I_162_167, I_162_168, I_162_169, I_162_171, I_162_174, I_162_175, I_162_178, I_162_179, I_162_180, I_162_181, I_162_184, I_162_190, I_162_193, I_162_194, rr_0_0, rr_0_1, rr_0_2, rr_0_3, rr_0_4, rr_0_5, rr_0_6, rr_0_7, rr_0_8, rr_1_0, rr_1_1, rr_1_2, rr_1_3, rr_2_4, rr_2_5, rr_2_6, rr_2_7, rr_2_8, rr_13_0, rr_15_4, rr_15_5, rr_15_6, rr_15_7, rr_15_8, rr_21_4, rr_21_5, rr_21_6, rr_21_7, rr_21_8, rr_27_4, rr_27_5, rr_27_6, rr_27_7, rr_27_8, rr_33_4, rr_33_5, rr_33_6, rr_33_7, rr_33_8, rr_39_4, rr_39_5, rr_39_6, rr_39_7, rr_39_8, rr_45_4, rr_45_5, rr_45_6, rr_45_7, rr_45_8, rr_51_4, rr_51_5, rr_51_6, rr_51_7, rr_51_8, rr_57_4, rr_57_5, rr_57_6, rr_57_7, rr_57_8, rr_63_2, rr_63_3, rr_63_4, rr_63_5, rr_68_0, rr_70_1, rr_70_2, rr_74_4, rr_74_5, rr_74_6, rr_74_7, rr_74_8, rr_80_4, rr_80_5, rr_80_6, rr_80_7, rr_80_8, rr_86_2, rr_88_2, rr_90_2, rr_92_0, rr_92_1, rr_92_5, rr_92_6, rr_92_8, rr_92_9, rr_92_12, rr_92_15, rr_92_16, rr_92_17, hX'.2.1, hX'.2.2 q hq, hc, ↓reduceIte, nI_add, u2_s, m_treadleOf E hX' hW hq, m_has E _ (show i < 32 by omega), bt_nI (show i < 32 by omega), Option.toList_some, List.cons_append, List.nil_append]
    cases hu : (X q).testBit i with
    | true =>
      rw [hu] at ih1
      simp only [↓reduceIte] at ih1
      simp (disch := first | assumption | exact bz0 | exact bz1 | exact bzi | omega | decide +kernel) only [I_162_0, I_162_1, I_162_4, I_162_5, I_162_6, I_162_9, I_162_10, I_162_11, I_162_14, I_162_17, I_162_18, I_162_20, I_162_23, I_162_24, I_162_26, I_162_29, I_162_31, I_162_32, I_162_33, I_162_36, I_162_37, I_162_38, I_162_41, I_162_42, I_162_45, I_162_46, I_162_47, I_162_50, I_162_51, I_162_53, I_162_55, I_162_58, I_162_59, I_162_62, I_162_64, I_162_65, I_162_66, I_162_67, I_162_68, I_162_71, I_162_74, I_162_75, I_162_77, I_162_78, I_162_81, I_162_84, I_162_85, I_162_88, I_162_89, I_162_90, I_162_91, I_162_92, I_162_93, I_162_96, I_162_97, I_162_100, I_162_103, I_162_104, I_162_106, I_162_107, I_162_110, I_162_113, I_162_114, I_162_117, I_162_119, I_162_120, I_162_121, I_162_122, I_162_123, I_162_126, I_162_127, I_162_128, I_162_132, I_162_133, I_162_136, I_162_139, I_162_140, I_162_143, I_162_145, I_162_146, I_162_147, I_162_150, I_162_151, I_162_152, I_162_153, I_162_154, I_162_157, I_162_158, I_162_159, I_162_161, I_162_164, I_162_167, I_162_168, I_162_169, I_162_171, I_162_174, I_162_175, I_162_178, I_162_179, I_162_180, I_162_181, I_162_184, I_162_190, I_162_193, I_162_194, nb1, ↓reduceIte, m_shaftOf E hX' hW (show i < c by omega), Option.toList_some, List.cons_append, List.nil_append, nI_shl1 hnb, nx_or, nI_add, u2_u2, Nat.or_assoc]
      exact ih1
    | false =>
      rw [hu] at ih1
      simp only [Bool.false_eq_true, ↓reduceIte] at ih1
      simp (disch := first | assumption | exact bz0 | exact bz1 | exact bzi | omega | decide +kernel) only [I_162_0, I_162_1, I_162_4, I_162_5, I_162_6, I_162_9, I_162_10, I_162_11, I_162_14, I_162_17, I_162_18, I_162_20, I_162_23, I_162_24, I_162_26, I_162_29, I_162_31, I_162_32, I_162_33, I_162_36, I_162_37, I_162_38, I_162_41, I_162_42, I_162_45, I_162_46, I_162_47, I_162_50, I_162_51, I_162_53, I_162_55, I_162_58, I_162_59, I_162_62, I_162_64, I_162_65, I_162_66, I_162_67, I_162_68, I_162_71, I_162_74, I_162_75, I_162_77, I_162_78, I_162_81, I_162_84, I_162_85, I_162_88, I_162_89, I_162_90, I_162_91, I_162_92, I_162_93, I_162_96, I_162_97, I_162_100, I_162_103, I_162_104, I_162_106, I_162_107, I_162_110, I_162_113, I_162_114, I_162_117, I_162_119, I_162_120, I_162_121, I_162_122, I_162_123, I_162_126, I_162_127, I_162_128, I_162_132, I_162_133, I_162_136, I_162_139, I_162_140, I_162_143, I_162_145, I_162_146, I_162_147, I_162_150, I_162_151, I_162_152, I_162_153, I_162_154, I_162_157, I_162_158, I_162_159, I_162_161, I_162_164, I_162_167, I_162_168, I_162_169, I_162_171, I_162_174, I_162_175, I_162_178, I_162_179, I_162_180, I_162_181, I_162_184, I_162_190, I_162_193, I_162_194, nb0, ↓reduceIte, nx_or, nI_add, u2_u2, Nat.or_assoc]
      exact ih1
def msI (σ σ' : ip_G) (X : Nat → Nat) (r c q : Nat) : Prop := (∀ j, j < q → σ' 93 (22 + j) = nI (nb X j)) ∧ (∀ j, j < 6 → σ' 93 (16 + j) = nI (orF (fun p => if nb X p = j then sU X r c p else 0) q)) ∧ (∀ j, j < 16 ∨ 22 + q ≤ j → σ' 93 j = σ 93 j) ∧ ∀ k, k ≠ 93 → σ' k = σ k
theorem L_msD (E : ip_E) {σ : ip_G} {r c : Nat} {X : Nat → Nat} (hX : MM σ r c X) (hW : WX r c X) (ht : trX X r ≤ 6) (s t : Int32) (κ : Option Value → ip_G → Prop) : ∀ (m q : Nat) (v : Value) (σ' : ip_G), q + m = r → msI σ σ' X r c q → (∀ σ2, msI σ σ2 X r c r → κ (some (.int s)) σ2) → wp E 162 105 [.ref 92, .int s, .int t, .int (nI q), v] [] σ' κ := by
  have w1 := hW.1
  intro m
  induction m with
  | zero =>
    intro q v σ' hq hI hk
    have hq2 : q = r := by omega
    subst hq2
    have hc : nI q ≤ nI q := nI_le (by omega) (by omega)
    have z1 : σ' 92 2 = nI q := by rw [hI.2.2.2 92 (by omega)]; exact hX.1
    simp (disch := first | assumption | exact bz0 | exact bz1 | exact bzi | omega | decide +kernel) only [I_162_0, I_162_1, I_162_4, I_162_5, I_162_6, I_162_9, I_162_10, I_162_11, I_162_14, I_162_17, I_162_18, I_162_20, I_162_23, I_162_24, I_162_26, I_162_29, I_162_31, I_162_32, I_162_33, I_162_36, I_162_37, I_162_38, I_162_41, I_162_42, I_162_45, I_162_46, I_162_47, I_162_50, I_162_51, I_162_53, I_162_55, I_162_58, I_162_59, I_162_62, I_162_64, I_162_65, I_162_66, I_162_67, I_162_68, I_162_71, I_162_74, I_162_75, I_162_77, I_162_78, I_162_81, I_162_84, I_162_85, I_162_88, I_162_89, I_162_90, I_162_91, I_162_92, I_162_93, I_162_96, I_162_97, I_162_100, I_162_103, I_162_104, I_162_105, I_162_106, I_162_107, I_162_110, I_162_113, I_162_114, I_162_117, I_162_119, I_162_120, I_162_121, I_162_122, I_162_123, I_162_126, I_162_127, I_162_128, I_162_132, I_162_133, I_162_136, I_162_139, I_162_140, I_162_143, I_162_145, I_162_146, I_162_147, I_162_150, I_162_151, I_162_152, I_162_153, I_162_154, I_162_157, I_162_158, I_162_159, I_162_161, I_162_164, I_162_167, I_162_168, I_162_169, I_162_171, I_162_174, I_162_175, I_162_178, I_162_179, I_162_180, I_162_181, I_162_184, I_162_187, I_162_190, I_162_193, I_162_194, z1, hc, ↓reduceIte]
    exact hk σ' hI
  | succ m ih =>
    intro q v σ' hq hI hk
    obtain ⟨i1, i2, i3, i4⟩ := hI
    have hc : ¬ nI r ≤ nI q := nI_ge (by omega) (by omega)
    have hX' : MM σ' r c X := MM_fr hX (by rw [i4 92 (by omega)]) (by rw [i4 92 (by omega)]) (i4 94 (by omega))
    have hnq : nb X q < 6 := by
      have h1 := nb_lt (t := X) (show q < r by omega)
      have h2 : nU X r ≤ 6 := ht
      omega
    rw [I_162_105]
    simp (disch := first | assumption | exact bz0 | exact bz1 | exact bzi | omega | decide +kernel) only [I_162_0, I_162_1, I_162_4, I_162_5, I_162_6, I_162_9, I_162_10, I_162_11, I_162_14, I_162_17, I_162_18, I_162_20, I_162_23, I_162_24, I_162_26, I_162_29, I_162_31, I_162_32, I_162_33, I_162_36, I_162_37, I_162_38, I_162_41, I_162_42, I_162_45, I_162_46, I_162_47, I_162_50, I_162_51, I_162_53, I_162_55, I_162_58, I_162_59, I_162_62, I_162_64, I_162_65, I_162_66, I_162_67, I_162_68, I_162_71, I_162_74, I_162_75, I_162_77, I_162_78, I_162_81, I_162_84, I_162_85, I_162_88, I_162_89, I_162_90, I_162_91, I_162_92, I_162_93, I_162_96, I_162_97, I_162_100, I_162_103, I_162_104, I_162_106, I_162_107, I_162_110, I_162_113, I_162_114, I_162_117, I_162_119, I_162_120, I_162_121, I_162_122, I_162_123, I_162_126, I_162_127, I_162_128, I_162_132, I_162_133, I_162_136, I_162_139, I_162_140, I_162_143, I_162_145, I_162_146, I_162_147, I_162_150, I_162_151, I_162_152, I_162_153, I_162_154, I_162_157, I_162_158, I_162_159, I_162_161, I_162_164, I_162_167, I_162_168, I_162_169, I_162_171, I_162_174, I_162_175, I_162_178, I_162_179, I_162_180, I_162_181, I_162_184, I_162_190, I_162_193, I_162_194, rr_0_0, rr_0_1, rr_0_2, rr_0_3, rr_0_4, rr_0_5, rr_0_6, rr_0_7, rr_0_8, rr_1_0, rr_1_1, rr_1_2, rr_1_3, rr_2_4, rr_2_5, rr_2_6, rr_2_7, rr_2_8, rr_13_0, rr_15_4, rr_15_5, rr_15_6, rr_15_7, rr_15_8, rr_21_4, rr_21_5, rr_21_6, rr_21_7, rr_21_8, rr_27_4, rr_27_5, rr_27_6, rr_27_7, rr_27_8, rr_33_4, rr_33_5, rr_33_6, rr_33_7, rr_33_8, rr_39_4, rr_39_5, rr_39_6, rr_39_7, rr_39_8, rr_45_4, rr_45_5, rr_45_6, rr_45_7, rr_45_8, rr_51_4, rr_51_5, rr_51_6, rr_51_7, rr_51_8, rr_57_4, rr_57_5, rr_57_6, rr_57_7, rr_57_8, rr_63_2, rr_63_3, rr_63_4, rr_63_5, rr_68_0, rr_70_1, rr_70_2, rr_74_4, rr_74_5, rr_74_6, rr_74_7, rr_74_8, rr_80_4, rr_80_5, rr_80_6, rr_80_7, rr_80_8, rr_86_2, rr_88_2, rr_90_2, rr_92_0, rr_92_1, rr_92_5, rr_92_6, rr_92_8, rr_92_9, rr_92_12, rr_92_15, rr_92_16, rr_92_17, hX'.1, hc, ↓reduceIte, nI_add, m_treadleOf E hX' hW (show q < r by omega), Option.toList_some, List.cons_append, List.nil_append]
    have hX2 : MM (ip_u2 σ' 93 (22 + q) (nI (nb X q))) r c X := MM_fr hX' (by rw [u2_k (by omega)]) (by rw [u2_k (by omega)]) (by rw [u2_f (by omega)])
    have L := L_msC E hX2 hW (q := q) (by omega) ht s t (orF (fun p => if nb X p = nb X q then sU X r c p else 0) q) κ c 0 (by omega)
    have eU : ip_u2 (ip_u2 σ' 93 (22 + q) (nI (nb X q))) 93 (16 + nb X q) (nI (orF (fun p => if nb X p = nb X q then sU X r c p else 0) q ||| orF (sG X r q) 0)) = ip_u2 σ' 93 (22 + q) (nI (nb X q)) := by
      rw [show orF (sG X r q) 0 = 0 from rfl, Nat.or_zero, ← i2 (nb X q) hnq]
      funext k j
      by_cases e : k = 93 ∧ j = 16 + nb X q
      · obtain ⟨rfl, rfl⟩ := e
        rw [u2_s, u2_i (by omega)]
      · rw [u2_ne e]
    rw [eU] at L
    rw [L]
    simp (disch := first | assumption | exact bz0 | exact bz1 | exact bzi | omega | decide +kernel) only [I_162_0, I_162_1, I_162_4, I_162_5, I_162_6, I_162_9, I_162_10, I_162_11, I_162_14, I_162_17, I_162_18, I_162_20, I_162_23, I_162_24, I_162_26, I_162_29, I_162_31, I_162_32, I_162_33, I_162_36, I_162_37, I_162_38, I_162_41, I_162_42, I_162_45, I_162_46, I_162_47, I_162_50, I_162_51, I_162_53, I_162_55, I_162_58, I_162_59, I_162_62, I_162_64, I_162_65, I_162_66, I_162_67, I_162_68, I_162_71, I_162_74, I_162_75, I_162_77, I_162_78, I_162_81, I_162_84, I_162_85, I_162_88, I_162_89, I_162_90, I_162_91, I_162_92, I_162_93, I_162_96, I_162_97, I_162_100, I_162_103, I_162_104, I_162_106, I_162_107, I_162_110, I_162_113, I_162_114, I_162_117, I_162_119, I_162_120, I_162_121, I_162_122, I_162_123, I_162_126, I_162_127, I_162_128, I_162_132, I_162_133, I_162_136, I_162_139, I_162_140, I_162_143, I_162_145, I_162_146, I_162_147, I_162_150, I_162_151, I_162_152, I_162_153, I_162_154, I_162_157, I_162_158, I_162_159, I_162_161, I_162_164, I_162_167, I_162_168, I_162_169, I_162_171, I_162_174, I_162_175, I_162_178, I_162_179, I_162_180, I_162_181, I_162_184, I_162_187, I_162_190, I_162_193, I_162_194, nI_add]
    refine ih (q + 1) _ _ (by omega) ⟨fun j hj => ?_, fun j hj => ?_, fun j hj => ?_, fun k hk2 => by rw [u2_f hk2, u2_f hk2]; exact i4 k hk2⟩ hk
    · rw [u2_i (by omega)]
      by_cases e : j = q
      · subst e; rw [u2_s]
      · rw [u2_i (by omega)]; exact i1 j (by omega)
    · by_cases e : j = nb X q
      · subst e
        rw [u2_s]
        show _ = nI (orF _ q ||| (if nb X q = nb X q then sU X r c q else 0))
        rw [if_pos rfl]
      · rw [u2_i (by omega), u2_i (by omega), i2 j hj]
        show _ = nI (orF _ q ||| (if nb X q = j then sU X r c q else 0))
        rw [if_neg (fun z => e z.symm), Nat.or_zero]
    · rw [u2_i (by omega), u2_i (by omega)]; exact i3 j (by omega)
theorem m_sample (E : ip_E) {σ : ip_G} {r c : Nat} {X : Nat → Nat} {n : Nat} {P : Nat → Nat → Nat} {D : Nat → Nat} (hX : MM σ r c X) (hWX : WX r c X) (hM : MD σ 0 D) (hP : MP σ n P) (hW : WD D) (κ : Option Value → ip_G → Prop) (hk : ∀ σ', MD σ' 0 (smpD r c X D) → MP σ' (opN (smok r c X) n) (opP (smok r c X) n P D) → frM σ σ' → κ (some (.int (smpR r c X))) σ') : wp E 162 0 [.ref 92, .retAddr 0, .retAddr 0, .retAddr 0, .retAddr 0] [] σ κ := by
  have x1 := hX.1
  have w1 := hWX.1
  have ub1 : shX X r c ≤ c := nU_le _ _
  have ub2 : trX X r ≤ r := nU_le _ _
  have w2 := hWX.2.1
  by_cases h0 : r = 0
  · have hok : smok r c X = false := decide_eq_false (by omega)
    simp only [smpR, smpD, hok, opN, opP, Bool.false_eq_true, ↓reduceIte] at hk
    have x10 : σ 92 2 = 0 := by rw [x1, h0]; exact nI_0
    simp (disch := first | assumption | exact bz0 | exact bz1 | exact bzi | omega | decide +kernel) only [I_162_0, I_162_1, I_162_4, I_162_5, I_162_6, I_162_9, I_162_10, I_162_11, I_162_14, I_162_17, I_162_18, I_162_20, I_162_23, I_162_24, I_162_26, I_162_29, I_162_31, I_162_32, I_162_33, I_162_36, I_162_37, I_162_38, I_162_41, I_162_42, I_162_45, I_162_46, I_162_47, I_162_50, I_162_51, I_162_53, I_162_55, I_162_58, I_162_59, I_162_62, I_162_64, I_162_65, I_162_66, I_162_67, I_162_68, I_162_71, I_162_74, I_162_75, I_162_77, I_162_78, I_162_81, I_162_84, I_162_85, I_162_88, I_162_89, I_162_90, I_162_91, I_162_92, I_162_93, I_162_96, I_162_97, I_162_100, I_162_103, I_162_104, I_162_106, I_162_107, I_162_110, I_162_113, I_162_114, I_162_117, I_162_119, I_162_120, I_162_121, I_162_122, I_162_123, I_162_126, I_162_127, I_162_128, I_162_132, I_162_133, I_162_136, I_162_139, I_162_140, I_162_143, I_162_145, I_162_146, I_162_147, I_162_150, I_162_151, I_162_152, I_162_153, I_162_154, I_162_157, I_162_158, I_162_159, I_162_161, I_162_164, I_162_167, I_162_168, I_162_169, I_162_171, I_162_174, I_162_175, I_162_178, I_162_179, I_162_180, I_162_181, I_162_184, I_162_187, I_162_190, I_162_193, I_162_194, m_leastShafts E hX hWX, m_leastTreadles E hX hWX, Option.toList_some, List.cons_append, List.nil_append, x10, ↓reduceIte]
    exact hk σ hM hP (frM_r σ)
  · have hc : ¬ nI r = 0 := nI_ne0 (by omega) (by omega)
    by_cases h6 : shX X r c ≤ 6
    · have q6 : ¬ nI 6 < nI (shX X r c) := nI_nlt (by omega) (by omega)
      by_cases h7 : trX X r ≤ 6
      · have q7 : nI (trX X r) ≤ nI 6 := nI_le (by omega) (by omega)
        have hok : smok r c X = true := decide_eq_true (by omega)
        simp only [smpR, smpD, hok, opN, opP, ↓reduceIte] at hk
        simp (disch := first | assumption | exact bz0 | exact bz1 | exact bzi | omega | decide +kernel) only [I_162_0, I_162_1, I_162_4, I_162_5, I_162_6, I_162_9, I_162_10, I_162_11, I_162_14, I_162_17, I_162_18, I_162_20, I_162_23, I_162_24, I_162_26, I_162_29, I_162_31, I_162_32, I_162_33, I_162_36, I_162_37, I_162_38, I_162_41, I_162_42, I_162_45, I_162_46, I_162_47, I_162_50, I_162_51, I_162_53, I_162_55, I_162_58, I_162_59, I_162_62, I_162_64, I_162_65, I_162_66, I_162_67, I_162_68, I_162_71, I_162_74, I_162_75, I_162_77, I_162_78, I_162_81, I_162_84, I_162_85, I_162_88, I_162_89, I_162_90, I_162_91, I_162_92, I_162_93, I_162_96, I_162_97, I_162_100, I_162_103, I_162_104, I_162_106, I_162_107, I_162_110, I_162_113, I_162_114, I_162_117, I_162_119, I_162_120, I_162_121, I_162_122, I_162_123, I_162_126, I_162_127, I_162_128, I_162_132, I_162_133, I_162_136, I_162_139, I_162_140, I_162_143, I_162_145, I_162_146, I_162_147, I_162_150, I_162_151, I_162_152, I_162_153, I_162_154, I_162_157, I_162_158, I_162_159, I_162_161, I_162_164, I_162_167, I_162_168, I_162_169, I_162_171, I_162_174, I_162_175, I_162_178, I_162_179, I_162_180, I_162_181, I_162_184, I_162_187, I_162_190, I_162_193, I_162_194, m_leastShafts E hX hWX, m_leastTreadles E hX hWX, Option.toList_some, List.cons_append, List.nil_append, x1, hc, q6, q7, ↓reduceIte]
        refine m_keepPast E hP hM hW _ (fun σ1 a1 a2 a3 a4 => ?_)
        have hX1 : MM σ1 r c X := MM_fr hX (a3 2 (by omega)) (a3 3 (by omega)) (a2 94 (by omega) (by omega))
        have c1 := hWX.2.2.1 (by omega)
        have s1 : 1 ≤ shX X r c := nU_pos c1
        have t1 : 1 ≤ trX X r := nU_pos (by omega)
        simp (disch := first | assumption | exact bz0 | exact bz1 | exact bzi | omega | decide +kernel) only [I_162_0, I_162_1, I_162_4, I_162_5, I_162_6, I_162_9, I_162_10, I_162_11, I_162_14, I_162_17, I_162_18, I_162_20, I_162_23, I_162_24, I_162_26, I_162_29, I_162_31, I_162_32, I_162_33, I_162_36, I_162_37, I_162_38, I_162_41, I_162_42, I_162_45, I_162_46, I_162_47, I_162_50, I_162_51, I_162_53, I_162_55, I_162_58, I_162_59, I_162_62, I_162_64, I_162_65, I_162_66, I_162_67, I_162_68, I_162_71, I_162_74, I_162_75, I_162_77, I_162_78, I_162_81, I_162_84, I_162_85, I_162_88, I_162_89, I_162_90, I_162_91, I_162_92, I_162_93, I_162_96, I_162_97, I_162_100, I_162_103, I_162_104, I_162_106, I_162_107, I_162_110, I_162_113, I_162_114, I_162_117, I_162_119, I_162_120, I_162_121, I_162_122, I_162_123, I_162_126, I_162_127, I_162_128, I_162_132, I_162_133, I_162_136, I_162_139, I_162_140, I_162_143, I_162_145, I_162_146, I_162_147, I_162_150, I_162_151, I_162_152, I_162_153, I_162_154, I_162_157, I_162_158, I_162_159, I_162_161, I_162_164, I_162_167, I_162_168, I_162_169, I_162_171, I_162_174, I_162_175, I_162_178, I_162_179, I_162_180, I_162_181, I_162_184, I_162_187, I_162_190, I_162_193, I_162_194, Option.toList_none, List.nil_append, hX1.1, hX1.2.1]
        refine m_anew E (by omega) _ (fun σ2 b1 b2 b3 => ?_)
        simp (disch := first | assumption | exact bz0 | exact bz1 | exact bzi | omega | decide +kernel) only [I_162_0, I_162_1, I_162_4, I_162_5, I_162_6, I_162_9, I_162_10, I_162_11, I_162_14, I_162_17, I_162_18, I_162_20, I_162_23, I_162_24, I_162_26, I_162_29, I_162_31, I_162_32, I_162_33, I_162_36, I_162_37, I_162_38, I_162_41, I_162_42, I_162_45, I_162_46, I_162_47, I_162_50, I_162_51, I_162_53, I_162_55, I_162_58, I_162_59, I_162_62, I_162_64, I_162_65, I_162_66, I_162_67, I_162_68, I_162_71, I_162_74, I_162_75, I_162_77, I_162_78, I_162_81, I_162_84, I_162_85, I_162_88, I_162_89, I_162_90, I_162_91, I_162_92, I_162_93, I_162_96, I_162_97, I_162_100, I_162_103, I_162_104, I_162_106, I_162_107, I_162_110, I_162_113, I_162_114, I_162_117, I_162_119, I_162_120, I_162_121, I_162_122, I_162_123, I_162_126, I_162_127, I_162_128, I_162_132, I_162_133, I_162_136, I_162_139, I_162_140, I_162_143, I_162_145, I_162_146, I_162_147, I_162_150, I_162_151, I_162_152, I_162_153, I_162_154, I_162_157, I_162_158, I_162_159, I_162_161, I_162_164, I_162_167, I_162_168, I_162_169, I_162_171, I_162_174, I_162_175, I_162_178, I_162_179, I_162_180, I_162_181, I_162_184, I_162_187, I_162_190, I_162_193, I_162_194, Option.toList_none, List.nil_append]
        refine L_msA E (σ := σ2) _ _ κ 6 0 σ2 (by omega) (fun j hj => absurd hj (by omega)) (fun _ _ => rfl) (fun _ _ => rfl) (fun σ3 d1 d2 d3 => ?_)
        have hX3 : MM σ3 r c X := MM_fr hX1 (by rw [d3 92 (by omega), b3 92 (by omega)]) (by rw [d3 92 (by omega), b3 92 (by omega)]) (by rw [d3 94 (by omega), b3 94 (by omega)])
        simp (disch := first | assumption | exact bz0 | exact bz1 | exact bzi | omega | decide +kernel) only [I_162_0, I_162_1, I_162_4, I_162_5, I_162_6, I_162_9, I_162_10, I_162_11, I_162_14, I_162_17, I_162_18, I_162_20, I_162_23, I_162_24, I_162_26, I_162_29, I_162_31, I_162_32, I_162_33, I_162_36, I_162_37, I_162_38, I_162_41, I_162_42, I_162_45, I_162_46, I_162_47, I_162_50, I_162_51, I_162_53, I_162_55, I_162_58, I_162_59, I_162_62, I_162_64, I_162_65, I_162_66, I_162_67, I_162_68, I_162_71, I_162_74, I_162_75, I_162_77, I_162_78, I_162_81, I_162_84, I_162_85, I_162_88, I_162_89, I_162_90, I_162_91, I_162_92, I_162_93, I_162_96, I_162_97, I_162_100, I_162_103, I_162_104, I_162_106, I_162_107, I_162_110, I_162_113, I_162_114, I_162_117, I_162_119, I_162_120, I_162_121, I_162_122, I_162_123, I_162_126, I_162_127, I_162_128, I_162_132, I_162_133, I_162_136, I_162_139, I_162_140, I_162_143, I_162_145, I_162_146, I_162_147, I_162_150, I_162_151, I_162_152, I_162_153, I_162_154, I_162_157, I_162_158, I_162_159, I_162_161, I_162_164, I_162_167, I_162_168, I_162_169, I_162_171, I_162_174, I_162_175, I_162_178, I_162_179, I_162_180, I_162_181, I_162_184, I_162_187, I_162_190, I_162_193, I_162_194]
        refine L_msB E hX3 hWX _ _ κ c 0 σ3 (by omega) (fun j hj => absurd hj (by omega)) (fun _ _ => rfl) (fun _ _ => rfl) (fun σ4 e1 e2 e3 => ?_)
        have hX4 : MM σ4 r c X := MM_fr hX3 (by rw [e3 92 (by omega)]) (by rw [e3 92 (by omega)]) (e3 94 (by omega))
        simp (disch := first | assumption | exact bz0 | exact bz1 | exact bzi | omega | decide +kernel) only [I_162_0, I_162_1, I_162_4, I_162_5, I_162_6, I_162_9, I_162_10, I_162_11, I_162_14, I_162_17, I_162_18, I_162_20, I_162_23, I_162_24, I_162_26, I_162_29, I_162_31, I_162_32, I_162_33, I_162_36, I_162_37, I_162_38, I_162_41, I_162_42, I_162_45, I_162_46, I_162_47, I_162_50, I_162_51, I_162_53, I_162_55, I_162_58, I_162_59, I_162_62, I_162_64, I_162_65, I_162_66, I_162_67, I_162_68, I_162_71, I_162_74, I_162_75, I_162_77, I_162_78, I_162_81, I_162_84, I_162_85, I_162_88, I_162_89, I_162_90, I_162_91, I_162_92, I_162_93, I_162_96, I_162_97, I_162_100, I_162_103, I_162_104, I_162_106, I_162_107, I_162_110, I_162_113, I_162_114, I_162_117, I_162_119, I_162_120, I_162_121, I_162_122, I_162_123, I_162_126, I_162_127, I_162_128, I_162_132, I_162_133, I_162_136, I_162_139, I_162_140, I_162_143, I_162_145, I_162_146, I_162_147, I_162_150, I_162_151, I_162_152, I_162_153, I_162_154, I_162_157, I_162_158, I_162_159, I_162_161, I_162_164, I_162_167, I_162_168, I_162_169, I_162_171, I_162_174, I_162_175, I_162_178, I_162_179, I_162_180, I_162_181, I_162_184, I_162_187, I_162_190, I_162_193, I_162_194]
        refine L_msD E hX4 hWX h7 _ _ κ r 0 _ σ4 (by omega) ⟨fun j hj => absurd hj (by omega), fun j hj => ?_, fun _ _ => rfl, fun _ _ => rfl⟩ (fun σ5 f => ?_)
        · rw [e2 (16 + j) (by omega), d1 j hj]; rfl
        · obtain ⟨f1, f2, f3, f4⟩ := f
          have fk : ∀ k, k ≠ 93 → σ5 k = σ1 k := fun k hk2 => by rw [f4 k hk2, e3 k hk2, d3 k hk2, b3 k hk2]
          refine hk σ5 ⟨fun j hj => ?_, fun j hj => ?_, fun j hj1 hj2 => ?_⟩ (MP_fr a1 (by rw [fk 92 (by omega)]) (fun j p1 p2 => by rw [f3 j (by omega), e2 j (by omega), d2 j (by omega), b2 j (by omega)])) ⟨fun k p1 p2 => by rw [fk k p2, a2 k p1 p2], fun j hj => by rw [fk 92 (by omega), a3 j hj], fun j hj => by rw [f3 j (by omega), e2 j (by omega), d2 j (by omega), b2 j (by omega), a4 j (by omega)]⟩
          · rw [Nat.zero_add, f3 j (by omega)]
            unfold smD
            by_cases hj4 : j < 4
            · rw [if_pos hj4, e2 j (by omega), d2 j (by omega)]
              have := b1.1 j (by omega)
              rw [Nat.zero_add] at this
              exact this
            · rw [if_neg hj4, if_pos hj]
              by_cases hjc : j < 4 + c
              · rw [if_pos hjc]
                have := e1 (j - 4) (by omega)
                rw [show 4 + (j - 4) = j by omega] at this
                exact this
              · rw [if_neg hjc, e2 j (by omega), d2 j (by omega)]
                have := b1.1 j hj
                rw [Nat.zero_add] at this
                rw [this]
                unfold bgN
                rw [if_neg (by omega), if_neg (by omega), if_neg (by omega), if_neg (by omega), if_pos (by omega)]
          · have hj2 : j < nU X r := hj
            have hj6 : j < 6 := by have : nU X r ≤ 6 := h7; omega
            rw [Nat.zero_add, f2 j hj6]
            unfold smD
            rw [if_neg (by omega), if_neg (by omega), if_pos (by omega), Nat.add_sub_cancel_left]
            rfl
          · rw [Nat.zero_add]
            unfold smD
            rw [if_neg (by omega), if_neg (by omega), if_neg (by omega)]
            by_cases hj34 : j < 34
            · rw [if_pos hj34]
              by_cases hjr : j < 22 + r
              · rw [if_pos hjr]
                have := f1 (j - 22) (by omega)
                rw [show 22 + (j - 22) = j by omega] at this
                exact this
              · rw [if_neg hjr, f3 j (by omega), e2 j (by omega), d2 j (by omega)]
                have := b1.2.2 j hj1 hj2
                rw [Nat.zero_add] at this
                rw [this]
                unfold bgN
                rw [if_neg (by omega), if_neg (by omega), if_neg (by omega), if_neg (by omega), if_neg (by omega), if_neg (by omega), if_pos (by omega)]
            · rw [if_neg hj34, f3 j (by omega), e2 j (by omega), d2 j (by omega)]
              have := b1.2.2 j hj1 hj2
              rw [Nat.zero_add] at this
              exact this
      · have q7 : ¬ nI (trX X r) ≤ nI 6 := nI_ge (by omega) (by omega)
        have hok : smok r c X = false := decide_eq_false (by omega)
        simp only [smpR, smpD, hok, opN, opP, Bool.false_eq_true, ↓reduceIte] at hk
        simp (disch := first | assumption | exact bz0 | exact bz1 | exact bzi | omega | decide +kernel) only [I_162_0, I_162_1, I_162_4, I_162_5, I_162_6, I_162_9, I_162_10, I_162_11, I_162_14, I_162_17, I_162_18, I_162_20, I_162_23, I_162_24, I_162_26, I_162_29, I_162_31, I_162_32, I_162_33, I_162_36, I_162_37, I_162_38, I_162_41, I_162_42, I_162_45, I_162_46, I_162_47, I_162_50, I_162_51, I_162_53, I_162_55, I_162_58, I_162_59, I_162_62, I_162_64, I_162_65, I_162_66, I_162_67, I_162_68, I_162_71, I_162_74, I_162_75, I_162_77, I_162_78, I_162_81, I_162_84, I_162_85, I_162_88, I_162_89, I_162_90, I_162_91, I_162_92, I_162_93, I_162_96, I_162_97, I_162_100, I_162_103, I_162_104, I_162_106, I_162_107, I_162_110, I_162_113, I_162_114, I_162_117, I_162_119, I_162_120, I_162_121, I_162_122, I_162_123, I_162_126, I_162_127, I_162_128, I_162_132, I_162_133, I_162_136, I_162_139, I_162_140, I_162_143, I_162_145, I_162_146, I_162_147, I_162_150, I_162_151, I_162_152, I_162_153, I_162_154, I_162_157, I_162_158, I_162_159, I_162_161, I_162_164, I_162_167, I_162_168, I_162_169, I_162_171, I_162_174, I_162_175, I_162_178, I_162_179, I_162_180, I_162_181, I_162_184, I_162_187, I_162_190, I_162_193, I_162_194, m_leastShafts E hX hWX, m_leastTreadles E hX hWX, Option.toList_some, List.cons_append, List.nil_append, x1, hc, q6, q7, ↓reduceIte]
        exact hk σ hM hP (frM_r σ)
    · have q6 : nI 6 < nI (shX X r c) := nI_lt (by omega) (by omega)
      have hok : smok r c X = false := decide_eq_false (by omega)
      simp only [smpR, smpD, hok, opN, opP, Bool.false_eq_true, ↓reduceIte] at hk
      simp (disch := first | assumption | exact bz0 | exact bz1 | exact bzi | omega | decide +kernel) only [I_162_0, I_162_1, I_162_4, I_162_5, I_162_6, I_162_9, I_162_10, I_162_11, I_162_14, I_162_17, I_162_18, I_162_20, I_162_23, I_162_24, I_162_26, I_162_29, I_162_31, I_162_32, I_162_33, I_162_36, I_162_37, I_162_38, I_162_41, I_162_42, I_162_45, I_162_46, I_162_47, I_162_50, I_162_51, I_162_53, I_162_55, I_162_58, I_162_59, I_162_62, I_162_64, I_162_65, I_162_66, I_162_67, I_162_68, I_162_71, I_162_74, I_162_75, I_162_77, I_162_78, I_162_81, I_162_84, I_162_85, I_162_88, I_162_89, I_162_90, I_162_91, I_162_92, I_162_93, I_162_96, I_162_97, I_162_100, I_162_103, I_162_104, I_162_106, I_162_107, I_162_110, I_162_113, I_162_114, I_162_117, I_162_119, I_162_120, I_162_121, I_162_122, I_162_123, I_162_126, I_162_127, I_162_128, I_162_132, I_162_133, I_162_136, I_162_139, I_162_140, I_162_143, I_162_145, I_162_146, I_162_147, I_162_150, I_162_151, I_162_152, I_162_153, I_162_154, I_162_157, I_162_158, I_162_159, I_162_161, I_162_164, I_162_167, I_162_168, I_162_169, I_162_171, I_162_174, I_162_175, I_162_178, I_162_179, I_162_180, I_162_181, I_162_184, I_162_187, I_162_190, I_162_193, I_162_194, m_leastShafts E hX hWX, m_leastTreadles E hX hWX, Option.toList_some, List.cons_append, List.nil_append, x1, hc, q6, ↓reduceIte]
      exact hk σ hM hP (frM_r σ)
theorem m_isSame (E : ip_E) {σ : ip_G} {r c : Nat} {X : Nat → Nat} {D : Nat → Nat} (hX : MM σ r c X) (hWX : WX r c X) (hM : MD σ 0 D) (hW : WD D) (κ : Option Value → ip_G → Prop) : wp E 174 0 [.ref 92, .retAddr 0, .retAddr 0] [] σ κ = κ (some (.int (nI (b2n (smeB D r c X))))) σ := by
  obtain ⟨x1, x2, x3⟩ := hX
  obtain ⟨w1, w2, w3, w4⟩ := hWX
  have w := hW.1
  have e0 := (MD0 hM).1 0 (by omega)
  have e1 := (MD0 hM).1 1 (by omega)
  have LF : ∀ j, wp E 174 41 [.ref 92, .int (nI 0), .int (nI j)] [] σ κ = κ (some (.int (nI 0))) σ := by
    intro j
    by_cases hc : nI r ≤ nI j
    · simp (disch := first | assumption | exact bz0 | exact bz1 | exact bzi | omega | decide +kernel) only [I_174_0, I_174_1, I_174_4, I_174_7, I_174_8, I_174_11, I_174_12, I_174_15, I_174_16, I_174_17, I_174_20, I_174_21, I_174_24, I_174_25, I_174_28, I_174_29, I_174_30, I_174_33, I_174_34, I_174_37, I_174_38, I_174_39, I_174_40, I_174_41, I_174_42, I_174_43, I_174_46, I_174_49, I_174_50, I_174_53, I_174_54, I_174_55, I_174_58, I_174_59, I_174_62, I_174_63, I_174_64, I_174_67, I_174_68, I_174_71, I_174_72, I_174_73, I_174_76, I_174_79, I_174_80, x1, hc, ↓reduceIte]
    · simp (disch := first | assumption | exact bz0 | exact bz1 | exact bzi | omega | decide +kernel) only [I_174_0, I_174_1, I_174_4, I_174_7, I_174_8, I_174_11, I_174_12, I_174_15, I_174_16, I_174_17, I_174_20, I_174_21, I_174_24, I_174_25, I_174_28, I_174_29, I_174_30, I_174_33, I_174_34, I_174_37, I_174_38, I_174_39, I_174_40, I_174_41, I_174_42, I_174_43, I_174_46, I_174_49, I_174_50, I_174_53, I_174_54, I_174_55, I_174_58, I_174_59, I_174_62, I_174_63, I_174_64, I_174_67, I_174_68, I_174_71, I_174_72, I_174_73, I_174_76, I_174_79, I_174_80, x1, hc, z00, ↓reduceIte]
  have L : ∀ m j, j + m = r → r = D 1 → wp E 174 41 [.ref 92, .int (nI 1), .int (nI j)] [] σ κ = κ (some (.int (nI (b2n (smB D X m j))))) σ := by
    intro m
    induction m with
    | zero =>
      intro j hj hr
      have hc : nI r ≤ nI j := nI_le (by omega) (by omega)
      simp (disch := first | assumption | exact bz0 | exact bz1 | exact bzi | omega | decide +kernel) only [I_174_0, I_174_1, I_174_4, I_174_7, I_174_8, I_174_11, I_174_12, I_174_15, I_174_16, I_174_17, I_174_20, I_174_21, I_174_24, I_174_25, I_174_28, I_174_29, I_174_30, I_174_33, I_174_34, I_174_37, I_174_38, I_174_39, I_174_40, I_174_41, I_174_42, I_174_43, I_174_46, I_174_49, I_174_50, I_174_53, I_174_54, I_174_55, I_174_58, I_174_59, I_174_62, I_174_63, I_174_64, I_174_67, I_174_68, I_174_71, I_174_72, I_174_73, I_174_76, I_174_79, I_174_80, x1, hc, ↓reduceIte, smB, b2n_t]
    | succ m ih =>
      intro j hj hr
      have hc : ¬ nI r ≤ nI j := nI_ge (by omega) (by omega)
      have b1 := w4 j (by omega)
      have b2 : tP D j < 4096 := bits_4096 _ (by omega)
      rw [I_174_41]
      by_cases h : X j = tP D j
      · have h2 : nI (bits (up D j) (D 0)) = nI (X j) := by rw [h]; rfl
        simp (disch := first | assumption | exact bz0 | exact bz1 | exact bzi | omega | decide +kernel) only [I_174_0, I_174_1, I_174_4, I_174_7, I_174_8, I_174_11, I_174_12, I_174_15, I_174_16, I_174_17, I_174_20, I_174_21, I_174_24, I_174_25, I_174_28, I_174_29, I_174_30, I_174_33, I_174_34, I_174_37, I_174_38, I_174_39, I_174_40, I_174_42, I_174_43, I_174_46, I_174_49, I_174_50, I_174_53, I_174_54, I_174_55, I_174_58, I_174_59, I_174_62, I_174_63, I_174_64, I_174_67, I_174_68, I_174_71, I_174_72, I_174_73, I_174_76, I_174_79, I_174_80, rr_0_0, rr_0_1, rr_0_2, rr_0_3, rr_0_4, rr_0_5, rr_0_6, rr_0_7, rr_0_8, rr_1_0, rr_1_1, rr_1_2, rr_1_3, rr_2_4, rr_2_5, rr_2_6, rr_2_7, rr_2_8, rr_13_0, rr_15_4, rr_15_5, rr_15_6, rr_15_7, rr_15_8, rr_21_4, rr_21_5, rr_21_6, rr_21_7, rr_21_8, rr_27_4, rr_27_5, rr_27_6, rr_27_7, rr_27_8, rr_33_4, rr_33_5, rr_33_6, rr_33_7, rr_33_8, rr_39_4, rr_39_5, rr_39_6, rr_39_7, rr_39_8, rr_45_4, rr_45_5, rr_45_6, rr_45_7, rr_45_8, rr_51_4, rr_51_5, rr_51_6, rr_51_7, rr_51_8, rr_57_4, rr_57_5, rr_57_6, rr_57_7, rr_57_8, rr_63_2, rr_63_3, rr_63_4, rr_63_5, rr_68_0, rr_70_1, rr_70_2, rr_74_4, rr_74_5, rr_74_6, rr_74_7, rr_74_8, rr_80_4, rr_80_5, rr_80_6, rr_80_7, rr_80_8, rr_86_2, rr_88_2, rr_90_2, rr_92_0, rr_92_1, rr_92_5, rr_92_6, rr_92_8, rr_92_9, rr_92_12, rr_92_15, rr_92_16, rr_92_17, x1, x3 j (by omega), hc, nz1, ↓reduceIte, m_upPick E hM hW (show j < 12 by omega), Option.toList_some, List.cons_append, List.nil_append, h2, not_true_eq_false, nI_add]
        rw [ih (j + 1) (by omega) hr]
        simp only [smB, h, ↓reduceIte]
      · have h2 : ¬ nI (bits (up D j) (D 0)) = nI (X j) := fun z => h ((nI_eq (show bits (up D j) (D 0) < _ from Nat.lt_trans b2 (by omega)) (by omega)).mp z).symm
        simp (disch := first | assumption | exact bz0 | exact bz1 | exact bzi | omega | decide +kernel) only [I_174_0, I_174_1, I_174_4, I_174_7, I_174_8, I_174_11, I_174_12, I_174_15, I_174_16, I_174_17, I_174_20, I_174_21, I_174_24, I_174_25, I_174_28, I_174_29, I_174_30, I_174_33, I_174_34, I_174_37, I_174_38, I_174_39, I_174_40, I_174_42, I_174_43, I_174_46, I_174_49, I_174_50, I_174_53, I_174_54, I_174_55, I_174_58, I_174_59, I_174_62, I_174_63, I_174_64, I_174_67, I_174_68, I_174_71, I_174_72, I_174_73, I_174_76, I_174_79, I_174_80, rr_0_0, rr_0_1, rr_0_2, rr_0_3, rr_0_4, rr_0_5, rr_0_6, rr_0_7, rr_0_8, rr_1_0, rr_1_1, rr_1_2, rr_1_3, rr_2_4, rr_2_5, rr_2_6, rr_2_7, rr_2_8, rr_13_0, rr_15_4, rr_15_5, rr_15_6, rr_15_7, rr_15_8, rr_21_4, rr_21_5, rr_21_6, rr_21_7, rr_21_8, rr_27_4, rr_27_5, rr_27_6, rr_27_7, rr_27_8, rr_33_4, rr_33_5, rr_33_6, rr_33_7, rr_33_8, rr_39_4, rr_39_5, rr_39_6, rr_39_7, rr_39_8, rr_45_4, rr_45_5, rr_45_6, rr_45_7, rr_45_8, rr_51_4, rr_51_5, rr_51_6, rr_51_7, rr_51_8, rr_57_4, rr_57_5, rr_57_6, rr_57_7, rr_57_8, rr_63_2, rr_63_3, rr_63_4, rr_63_5, rr_68_0, rr_70_1, rr_70_2, rr_74_4, rr_74_5, rr_74_6, rr_74_7, rr_74_8, rr_80_4, rr_80_5, rr_80_6, rr_80_7, rr_80_8, rr_86_2, rr_88_2, rr_90_2, rr_92_0, rr_92_1, rr_92_5, rr_92_6, rr_92_8, rr_92_9, rr_92_12, rr_92_15, rr_92_16, rr_92_17, x1, x3 j (by omega), hc, nz1, ↓reduceIte, m_upPick E hM hW (show j < 12 by omega), Option.toList_some, List.cons_append, List.nil_append, h2, not_false_eq_true, nI_add]
        rw [LF (j + 1)]
        simp only [smB, h, ↓reduceIte, b2n_f]
  by_cases h1 : r = D 1
  · have q0 : ¬ nI (D 1) ≤ 0 := fun z => by have := (le0_iff (by omega)).mp z; omega
    have x1' : σ 92 2 = nI (D 1) := by rw [← h1]; exact x1
    by_cases h2 : c = D 0
    · have x2' : σ 92 3 = nI (D 0) := by rw [← h2]; exact x2
      simp (disch := first | assumption | exact bz0 | exact bz1 | exact bzi | omega | decide +kernel) only [I_174_0, I_174_1, I_174_4, I_174_7, I_174_8, I_174_11, I_174_12, I_174_15, I_174_16, I_174_17, I_174_20, I_174_21, I_174_24, I_174_25, I_174_28, I_174_29, I_174_30, I_174_33, I_174_34, I_174_37, I_174_38, I_174_39, I_174_40, I_174_42, I_174_43, I_174_46, I_174_49, I_174_50, I_174_53, I_174_54, I_174_55, I_174_58, I_174_59, I_174_62, I_174_63, I_174_64, I_174_67, I_174_68, I_174_71, I_174_72, I_174_73, I_174_76, I_174_79, I_174_80, rr_0_0, rr_0_1, rr_0_2, rr_0_3, rr_0_4, rr_0_5, rr_0_6, rr_0_7, rr_0_8, rr_1_0, rr_1_1, rr_1_2, rr_1_3, rr_2_4, rr_2_5, rr_2_6, rr_2_7, rr_2_8, rr_13_0, rr_15_4, rr_15_5, rr_15_6, rr_15_7, rr_15_8, rr_21_4, rr_21_5, rr_21_6, rr_21_7, rr_21_8, rr_27_4, rr_27_5, rr_27_6, rr_27_7, rr_27_8, rr_33_4, rr_33_5, rr_33_6, rr_33_7, rr_33_8, rr_39_4, rr_39_5, rr_39_6, rr_39_7, rr_39_8, rr_45_4, rr_45_5, rr_45_6, rr_45_7, rr_45_8, rr_51_4, rr_51_5, rr_51_6, rr_51_7, rr_51_8, rr_57_4, rr_57_5, rr_57_6, rr_57_7, rr_57_8, rr_63_2, rr_63_3, rr_63_4, rr_63_5, rr_68_0, rr_70_1, rr_70_2, rr_74_4, rr_74_5, rr_74_6, rr_74_7, rr_74_8, rr_80_4, rr_80_5, rr_80_6, rr_80_7, rr_80_8, rr_86_2, rr_88_2, rr_90_2, rr_92_0, rr_92_1, rr_92_5, rr_92_6, rr_92_8, rr_92_9, rr_92_12, rr_92_15, rr_92_16, rr_92_17, x1', x2', e0, e1, q0, not_true_eq_false, ↓reduceIte]
      rw [L r 0 (by omega) h1]
      simp only [smeB, h1, h2, and_self, ↓reduceIte]
    · have q2 : ¬ nI c = nI (D 0) := fun z => h2 ((nI_eq (by omega) (by omega)).mp z)
      simp (disch := first | assumption | exact bz0 | exact bz1 | exact bzi | omega | decide +kernel) only [I_174_0, I_174_1, I_174_4, I_174_7, I_174_8, I_174_11, I_174_12, I_174_15, I_174_16, I_174_17, I_174_20, I_174_21, I_174_24, I_174_25, I_174_28, I_174_29, I_174_30, I_174_33, I_174_34, I_174_37, I_174_38, I_174_39, I_174_40, I_174_42, I_174_43, I_174_46, I_174_49, I_174_50, I_174_53, I_174_54, I_174_55, I_174_58, I_174_59, I_174_62, I_174_63, I_174_64, I_174_67, I_174_68, I_174_71, I_174_72, I_174_73, I_174_76, I_174_79, I_174_80, rr_0_0, rr_0_1, rr_0_2, rr_0_3, rr_0_4, rr_0_5, rr_0_6, rr_0_7, rr_0_8, rr_1_0, rr_1_1, rr_1_2, rr_1_3, rr_2_4, rr_2_5, rr_2_6, rr_2_7, rr_2_8, rr_13_0, rr_15_4, rr_15_5, rr_15_6, rr_15_7, rr_15_8, rr_21_4, rr_21_5, rr_21_6, rr_21_7, rr_21_8, rr_27_4, rr_27_5, rr_27_6, rr_27_7, rr_27_8, rr_33_4, rr_33_5, rr_33_6, rr_33_7, rr_33_8, rr_39_4, rr_39_5, rr_39_6, rr_39_7, rr_39_8, rr_45_4, rr_45_5, rr_45_6, rr_45_7, rr_45_8, rr_51_4, rr_51_5, rr_51_6, rr_51_7, rr_51_8, rr_57_4, rr_57_5, rr_57_6, rr_57_7, rr_57_8, rr_63_2, rr_63_3, rr_63_4, rr_63_5, rr_68_0, rr_70_1, rr_70_2, rr_74_4, rr_74_5, rr_74_6, rr_74_7, rr_74_8, rr_80_4, rr_80_5, rr_80_6, rr_80_7, rr_80_8, rr_86_2, rr_88_2, rr_90_2, rr_92_0, rr_92_1, rr_92_5, rr_92_6, rr_92_8, rr_92_9, rr_92_12, rr_92_15, rr_92_16, rr_92_17, x1', x2, e0, e1, q0, q2, not_true_eq_false, not_false_eq_true, ↓reduceIte]
      rw [LF 0]
      simp only [smeB, h2, and_false, ↓reduceIte, b2n_f]
  · have q1 : ¬ nI r = nI (D 1) := fun z => h1 ((nI_eq (by omega) (by omega)).mp z)
    have hs : smeB D r c X = false := by simp only [smeB, h1, false_and, ↓reduceIte]
    by_cases hr : r = 0
    · have q0 : nI r ≤ 0 := (le0_iff (by omega)).mpr hr
      simp (disch := first | assumption | exact bz0 | exact bz1 | exact bzi | omega | decide +kernel) only [I_174_0, I_174_1, I_174_4, I_174_7, I_174_8, I_174_11, I_174_12, I_174_15, I_174_16, I_174_17, I_174_20, I_174_21, I_174_24, I_174_25, I_174_28, I_174_29, I_174_30, I_174_33, I_174_34, I_174_37, I_174_38, I_174_39, I_174_40, I_174_42, I_174_43, I_174_46, I_174_49, I_174_50, I_174_53, I_174_54, I_174_55, I_174_58, I_174_59, I_174_62, I_174_63, I_174_64, I_174_67, I_174_68, I_174_71, I_174_72, I_174_73, I_174_76, I_174_79, I_174_80, rr_0_0, rr_0_1, rr_0_2, rr_0_3, rr_0_4, rr_0_5, rr_0_6, rr_0_7, rr_0_8, rr_1_0, rr_1_1, rr_1_2, rr_1_3, rr_2_4, rr_2_5, rr_2_6, rr_2_7, rr_2_8, rr_13_0, rr_15_4, rr_15_5, rr_15_6, rr_15_7, rr_15_8, rr_21_4, rr_21_5, rr_21_6, rr_21_7, rr_21_8, rr_27_4, rr_27_5, rr_27_6, rr_27_7, rr_27_8, rr_33_4, rr_33_5, rr_33_6, rr_33_7, rr_33_8, rr_39_4, rr_39_5, rr_39_6, rr_39_7, rr_39_8, rr_45_4, rr_45_5, rr_45_6, rr_45_7, rr_45_8, rr_51_4, rr_51_5, rr_51_6, rr_51_7, rr_51_8, rr_57_4, rr_57_5, rr_57_6, rr_57_7, rr_57_8, rr_63_2, rr_63_3, rr_63_4, rr_63_5, rr_68_0, rr_70_1, rr_70_2, rr_74_4, rr_74_5, rr_74_6, rr_74_7, rr_74_8, rr_80_4, rr_80_5, rr_80_6, rr_80_7, rr_80_8, rr_86_2, rr_88_2, rr_90_2, rr_92_0, rr_92_1, rr_92_5, rr_92_6, rr_92_8, rr_92_9, rr_92_12, rr_92_15, rr_92_16, rr_92_17, x1, q0, ↓reduceIte]
      rw [LF 0, hs, b2n_f]
    · have q0 : ¬ nI r ≤ 0 := fun z => hr ((le0_iff (by omega)).mp z)
      simp (disch := first | assumption | exact bz0 | exact bz1 | exact bzi | omega | decide +kernel) only [I_174_0, I_174_1, I_174_4, I_174_7, I_174_8, I_174_11, I_174_12, I_174_15, I_174_16, I_174_17, I_174_20, I_174_21, I_174_24, I_174_25, I_174_28, I_174_29, I_174_30, I_174_33, I_174_34, I_174_37, I_174_38, I_174_39, I_174_40, I_174_42, I_174_43, I_174_46, I_174_49, I_174_50, I_174_53, I_174_54, I_174_55, I_174_58, I_174_59, I_174_62, I_174_63, I_174_64, I_174_67, I_174_68, I_174_71, I_174_72, I_174_73, I_174_76, I_174_79, I_174_80, rr_0_0, rr_0_1, rr_0_2, rr_0_3, rr_0_4, rr_0_5, rr_0_6, rr_0_7, rr_0_8, rr_1_0, rr_1_1, rr_1_2, rr_1_3, rr_2_4, rr_2_5, rr_2_6, rr_2_7, rr_2_8, rr_13_0, rr_15_4, rr_15_5, rr_15_6, rr_15_7, rr_15_8, rr_21_4, rr_21_5, rr_21_6, rr_21_7, rr_21_8, rr_27_4, rr_27_5, rr_27_6, rr_27_7, rr_27_8, rr_33_4, rr_33_5, rr_33_6, rr_33_7, rr_33_8, rr_39_4, rr_39_5, rr_39_6, rr_39_7, rr_39_8, rr_45_4, rr_45_5, rr_45_6, rr_45_7, rr_45_8, rr_51_4, rr_51_5, rr_51_6, rr_51_7, rr_51_8, rr_57_4, rr_57_5, rr_57_6, rr_57_7, rr_57_8, rr_63_2, rr_63_3, rr_63_4, rr_63_5, rr_68_0, rr_70_1, rr_70_2, rr_74_4, rr_74_5, rr_74_6, rr_74_7, rr_74_8, rr_80_4, rr_80_5, rr_80_6, rr_80_7, rr_80_8, rr_86_2, rr_88_2, rr_90_2, rr_92_0, rr_92_1, rr_92_5, rr_92_6, rr_92_8, rr_92_9, rr_92_12, rr_92_15, rr_92_16, rr_92_17, x1, e1, q0, q1, not_false_eq_true, ↓reduceIte]
      rw [LF 0, hs, b2n_f]
theorem m_least (E : ip_E) {σ : ip_G} {r c : Nat} {X : Nat → Nat} {D : Nat → Nat} (x : Int32) (hX : MM σ r c X) (hWX : WX r c X) (hM : MD σ 0 D) (hW : WD D) (κ : Option Value → ip_G → Prop) : wp E 173 0 [.ref 92, .int x] [] σ κ = κ (some (.int (lstR D r c X x))) σ := by
  have x1 := hX.1
  have x2 := hX.2.1
  by_cases h : inr x 5 = true
  · obtain ⟨a, ha, rfl⟩ := inr_t h
    have ha2 := tn_nI (show a < 2147483648 by omega)
    have hb : a = 0 ∨ a = 1 ∨ a = 2 ∨ a = 3 ∨ a = 4 := by omega
    rcases hb with rfl | rfl | rfl | rfl | rfl <;> simp only [lstR, h, ha2, Nat.reduceEqDiff, Nat.one_ne_zero, ↓reduceIte]
    · simp (disch := first | assumption | exact bz0 | exact bz1 | exact bzi | omega | decide +kernel) only [I_173_0, I_173_1_c0, I_173_1_c1, I_173_1_c2, I_173_1_c3, I_173_1_c4, I_173_1_d, I_173_36, I_173_37, I_173_40, I_173_41, I_173_42, I_173_45, I_173_46, I_173_47, I_173_50, I_173_51, I_173_52, I_173_55, I_173_56, I_173_57, I_173_60, I_173_63, I_173_64, I_173_67, I_173_68, I_173_69, I_173_71, x1]
    · simp (disch := first | assumption | exact bz0 | exact bz1 | exact bzi | omega | decide +kernel) only [I_173_0, I_173_1_c0, I_173_1_c1, I_173_1_c2, I_173_1_c3, I_173_1_c4, I_173_1_d, I_173_36, I_173_37, I_173_40, I_173_41, I_173_42, I_173_45, I_173_46, I_173_47, I_173_50, I_173_51, I_173_52, I_173_55, I_173_56, I_173_57, I_173_60, I_173_63, I_173_64, I_173_67, I_173_68, I_173_69, I_173_71, x2]
    · simp (disch := first | assumption | exact bz0 | exact bz1 | exact bzi | omega | decide +kernel) only [I_173_0, I_173_1_c0, I_173_1_c1, I_173_1_c2, I_173_1_c3, I_173_1_c4, I_173_1_d, I_173_36, I_173_37, I_173_40, I_173_41, I_173_42, I_173_45, I_173_46, I_173_47, I_173_50, I_173_51, I_173_52, I_173_55, I_173_56, I_173_57, I_173_60, I_173_63, I_173_64, I_173_67, I_173_68, I_173_69, I_173_71, m_leastShafts E hX hWX, Option.toList_some, List.cons_append, List.nil_append]
    · simp (disch := first | assumption | exact bz0 | exact bz1 | exact bzi | omega | decide +kernel) only [I_173_0, I_173_1_c0, I_173_1_c1, I_173_1_c2, I_173_1_c3, I_173_1_c4, I_173_1_d, I_173_36, I_173_37, I_173_40, I_173_41, I_173_42, I_173_45, I_173_46, I_173_47, I_173_50, I_173_51, I_173_52, I_173_55, I_173_56, I_173_57, I_173_60, I_173_63, I_173_64, I_173_67, I_173_68, I_173_69, I_173_71, m_leastTreadles E hX hWX, Option.toList_some, List.cons_append, List.nil_append]
    · cases hm : smeB D r c X with
      | true => simp (disch := first | assumption | exact bz0 | exact bz1 | exact bzi | omega | decide +kernel) only [I_173_0, I_173_1_c0, I_173_1_c1, I_173_1_c2, I_173_1_c3, I_173_1_c4, I_173_1_d, I_173_36, I_173_37, I_173_40, I_173_41, I_173_42, I_173_45, I_173_46, I_173_47, I_173_50, I_173_51, I_173_52, I_173_55, I_173_56, I_173_57, I_173_60, I_173_63, I_173_64, I_173_67, I_173_68, I_173_69, I_173_71, m_isSame E hX hWX hM hW, hm, nz1, Option.toList_some, List.cons_append, List.nil_append, ↓reduceIte, b2n_t]
      | false => simp (disch := first | assumption | exact bz0 | exact bz1 | exact bzi | omega | decide +kernel) only [I_173_0, I_173_1_c0, I_173_1_c1, I_173_1_c2, I_173_1_c3, I_173_1_c4, I_173_1_d, I_173_36, I_173_37, I_173_40, I_173_41, I_173_42, I_173_45, I_173_46, I_173_47, I_173_50, I_173_51, I_173_52, I_173_55, I_173_56, I_173_57, I_173_60, I_173_63, I_173_64, I_173_67, I_173_68, I_173_69, I_173_71, m_isSame E hX hWX hM hW, hm, nb0, Option.toList_some, List.cons_append, List.nil_append, ↓reduceIte, nI_0]
  · have hy := inr_f h
    have hy2 : x.toInt < 0 ∨ 4 < x.toInt := by omega
    simp only [lstR, h, Bool.false_eq_true, ↓reduceIte]
    simp (disch := first | assumption | exact bz0 | exact bz1 | exact bzi | omega | decide +kernel) only [I_173_0, I_173_1_c0, I_173_1_c1, I_173_1_c2, I_173_1_c3, I_173_1_c4, I_173_1_d, I_173_36, I_173_37, I_173_40, I_173_41, I_173_42, I_173_45, I_173_46, I_173_47, I_173_50, I_173_51, I_173_52, I_173_55, I_173_56, I_173_57, I_173_60, I_173_63, I_173_64, I_173_67, I_173_68, I_173_69, I_173_71]
theorem m_sampled (E : ip_E) {σ : ip_G} {r c : Nat} {X : Nat → Nat} (x y : Int32) (hX : MM σ r c X) (hWX : WX r c X) (κ : Option Value → ip_G → Prop) : wp E 175 0 [.ref 92, .int x, .int y] [] σ κ = κ (some (.int (smdR r c X x y))) σ := by
  obtain ⟨x1, x2, x3⟩ := hX
  obtain ⟨w1, w2, w3, w4⟩ := hWX
  by_cases h1 : x.toInt < 0
  · have a1 : x < 0 := lt0_iff.mpr h1
    simp (disch := first | assumption | exact bz0 | exact bz1 | exact bzi | omega | decide +kernel) only [I_175_0, I_175_1, I_175_4, I_175_5, I_175_8, I_175_10, I_175_11, I_175_12, I_175_13, I_175_16, I_175_19, I_175_20, I_175_21, I_175_24, I_175_27, I_175_28, I_175_31, I_175_32, I_175_35, I_175_36, I_175_37, I_175_38, I_175_41, I_175_44, I_175_45, I_175_48, I_175_49, a1, ↓reduceIte, smdR, h1, true_or]
  · have a1 : ¬ x < 0 := fun z => h1 (lt0_iff.mp z)
    by_cases h2 : y.toInt < 0
    · have a2 : ¬ 0 ≤ y := fun z => by have := ge0_iff.mp z; omega
      simp (disch := first | assumption | exact bz0 | exact bz1 | exact bzi | omega | decide +kernel) only [I_175_0, I_175_1, I_175_4, I_175_5, I_175_8, I_175_10, I_175_11, I_175_12, I_175_13, I_175_16, I_175_19, I_175_20, I_175_21, I_175_24, I_175_27, I_175_28, I_175_31, I_175_32, I_175_35, I_175_36, I_175_37, I_175_38, I_175_41, I_175_44, I_175_45, I_175_48, I_175_49, a1, a2, ↓reduceIte, smdR, h2, or_true]
    · have a2 : 0 ≤ y := ge0_iff.mpr (by omega)
      have hor : ¬ (x.toInt < 0 ∨ y.toInt < 0) := by omega
      by_cases h3 : inr x r = true
      · obtain ⟨a, ha, rfl⟩ := inr_t h3
        have a3 : ¬ nI r ≤ nI a := nI_ge (by omega) (by omega)
        by_cases h4 : inr y c = true
        · obtain ⟨b, hb, rfl⟩ := inr_t h4
          have a4 : nI b < nI c := nI_lt hb (by omega)
          simp (disch := first | assumption | exact bz0 | exact bz1 | exact bzi | omega | decide +kernel) only [I_175_0, I_175_1, I_175_4, I_175_5, I_175_8, I_175_10, I_175_11, I_175_12, I_175_13, I_175_16, I_175_19, I_175_20, I_175_21, I_175_24, I_175_27, I_175_28, I_175_31, I_175_32, I_175_35, I_175_36, I_175_37, I_175_38, I_175_41, I_175_44, I_175_45, I_175_48, I_175_49, rr_0_0, rr_0_1, rr_0_2, rr_0_3, rr_0_4, rr_0_5, rr_0_6, rr_0_7, rr_0_8, rr_1_0, rr_1_1, rr_1_2, rr_1_3, rr_2_4, rr_2_5, rr_2_6, rr_2_7, rr_2_8, rr_13_0, rr_15_4, rr_15_5, rr_15_6, rr_15_7, rr_15_8, rr_21_4, rr_21_5, rr_21_6, rr_21_7, rr_21_8, rr_27_4, rr_27_5, rr_27_6, rr_27_7, rr_27_8, rr_33_4, rr_33_5, rr_33_6, rr_33_7, rr_33_8, rr_39_4, rr_39_5, rr_39_6, rr_39_7, rr_39_8, rr_45_4, rr_45_5, rr_45_6, rr_45_7, rr_45_8, rr_51_4, rr_51_5, rr_51_6, rr_51_7, rr_51_8, rr_57_4, rr_57_5, rr_57_6, rr_57_7, rr_57_8, rr_63_2, rr_63_3, rr_63_4, rr_63_5, rr_68_0, rr_70_1, rr_70_2, rr_74_4, rr_74_5, rr_74_6, rr_74_7, rr_74_8, rr_80_4, rr_80_5, rr_80_6, rr_80_7, rr_80_8, rr_86_2, rr_88_2, rr_90_2, rr_92_0, rr_92_1, rr_92_5, rr_92_6, rr_92_8, rr_92_9, rr_92_12, rr_92_15, rr_92_16, rr_92_17, a1, a2, a3, a4, x1, x2, x3 a ha, ↓reduceIte, m_has E _ (show b < 32 by omega), bt_nI (show b < 32 by omega), Option.toList_some, List.cons_append, List.nil_append, smdR, hor, h3, h4, and_self, tn_nI (show a < 2147483648 by omega), tn_nI (show b < 2147483648 by omega)]
          cases (X a).testBit b with
          | true => simp (disch := first | assumption | exact bz0 | exact bz1 | exact bzi | omega | decide +kernel) only [I_175_0, I_175_1, I_175_4, I_175_5, I_175_8, I_175_10, I_175_11, I_175_12, I_175_13, I_175_16, I_175_19, I_175_20, I_175_21, I_175_24, I_175_27, I_175_28, I_175_31, I_175_32, I_175_35, I_175_36, I_175_37, I_175_38, I_175_41, I_175_44, I_175_45, I_175_48, I_175_49, nz1, b2n_t, ↓reduceIte]
          | false => simp (disch := first | assumption | exact bz0 | exact bz1 | exact bzi | omega | decide +kernel) only [I_175_0, I_175_1, I_175_4, I_175_5, I_175_8, I_175_10, I_175_11, I_175_12, I_175_13, I_175_16, I_175_19, I_175_20, I_175_21, I_175_24, I_175_27, I_175_28, I_175_31, I_175_32, I_175_35, I_175_36, I_175_37, I_175_38, I_175_41, I_175_44, I_175_45, I_175_48, I_175_49, nb0, ↓reduceIte, nI_0]
        · have a4 : ¬ y < nI c := fun z => by have h5 := (ltn_iff (by omega)).mp z; have h6 := inr_f h4; omega
          simp (disch := first | assumption | exact bz0 | exact bz1 | exact bzi | omega | decide +kernel) only [I_175_0, I_175_1, I_175_4, I_175_5, I_175_8, I_175_10, I_175_11, I_175_12, I_175_13, I_175_16, I_175_19, I_175_20, I_175_21, I_175_24, I_175_27, I_175_28, I_175_31, I_175_32, I_175_35, I_175_36, I_175_37, I_175_38, I_175_41, I_175_44, I_175_45, I_175_48, I_175_49, rr_0_0, rr_0_1, rr_0_2, rr_0_3, rr_0_4, rr_0_5, rr_0_6, rr_0_7, rr_0_8, rr_1_0, rr_1_1, rr_1_2, rr_1_3, rr_2_4, rr_2_5, rr_2_6, rr_2_7, rr_2_8, rr_13_0, rr_15_4, rr_15_5, rr_15_6, rr_15_7, rr_15_8, rr_21_4, rr_21_5, rr_21_6, rr_21_7, rr_21_8, rr_27_4, rr_27_5, rr_27_6, rr_27_7, rr_27_8, rr_33_4, rr_33_5, rr_33_6, rr_33_7, rr_33_8, rr_39_4, rr_39_5, rr_39_6, rr_39_7, rr_39_8, rr_45_4, rr_45_5, rr_45_6, rr_45_7, rr_45_8, rr_51_4, rr_51_5, rr_51_6, rr_51_7, rr_51_8, rr_57_4, rr_57_5, rr_57_6, rr_57_7, rr_57_8, rr_63_2, rr_63_3, rr_63_4, rr_63_5, rr_68_0, rr_70_1, rr_70_2, rr_74_4, rr_74_5, rr_74_6, rr_74_7, rr_74_8, rr_80_4, rr_80_5, rr_80_6, rr_80_7, rr_80_8, rr_86_2, rr_88_2, rr_90_2, rr_92_0, rr_92_1, rr_92_5, rr_92_6, rr_92_8, rr_92_9, rr_92_12, rr_92_15, rr_92_16, rr_92_17, a1, a2, a3, a4, x1, x2, ↓reduceIte, smdR, hor, h4, and_false, Bool.false_eq_true]
      · have a3 : nI r ≤ x := (gen_iff (by omega)).mpr (by have h6 := inr_f h3; omega)
        simp (disch := first | assumption | exact bz0 | exact bz1 | exact bzi | omega | decide +kernel) only [I_175_0, I_175_1, I_175_4, I_175_5, I_175_8, I_175_10, I_175_11, I_175_12, I_175_13, I_175_16, I_175_19, I_175_20, I_175_21, I_175_24, I_175_27, I_175_28, I_175_31, I_175_32, I_175_35, I_175_36, I_175_37, I_175_38, I_175_41, I_175_44, I_175_45, I_175_48, I_175_49, rr_0_0, rr_0_1, rr_0_2, rr_0_3, rr_0_4, rr_0_5, rr_0_6, rr_0_7, rr_0_8, rr_1_0, rr_1_1, rr_1_2, rr_1_3, rr_2_4, rr_2_5, rr_2_6, rr_2_7, rr_2_8, rr_13_0, rr_15_4, rr_15_5, rr_15_6, rr_15_7, rr_15_8, rr_21_4, rr_21_5, rr_21_6, rr_21_7, rr_21_8, rr_27_4, rr_27_5, rr_27_6, rr_27_7, rr_27_8, rr_33_4, rr_33_5, rr_33_6, rr_33_7, rr_33_8, rr_39_4, rr_39_5, rr_39_6, rr_39_7, rr_39_8, rr_45_4, rr_45_5, rr_45_6, rr_45_7, rr_45_8, rr_51_4, rr_51_5, rr_51_6, rr_51_7, rr_51_8, rr_57_4, rr_57_5, rr_57_6, rr_57_7, rr_57_8, rr_63_2, rr_63_3, rr_63_4, rr_63_5, rr_68_0, rr_70_1, rr_70_2, rr_74_4, rr_74_5, rr_74_6, rr_74_7, rr_74_8, rr_80_4, rr_80_5, rr_80_6, rr_80_7, rr_80_8, rr_86_2, rr_88_2, rr_90_2, rr_92_0, rr_92_1, rr_92_5, rr_92_6, rr_92_8, rr_92_9, rr_92_12, rr_92_15, rr_92_16, rr_92_17, a1, a2, a3, x1, ↓reduceIte, smdR, hor, h3, false_and, Bool.false_eq_true]
