/-! reference: turn, undo, keep, back, changed -/
theorem u2_u2 (σ : ip_G) (k i : Nat) (v w : Int32) : ip_u2 (ip_u2 σ k i v) k i w = ip_u2 σ k i w := by
  funext a b
  simp only [ip_u2]
  split <;> rfl
theorem L_mturn1 (E : ip_E) {σ : ip_G} {D : Nat → Nat} (hM : MD σ 0 D) (hW : WD D) {x : Nat} (hx : x < 6) (κ : Option Value → ip_G → Prop) : ∀ (k i : Nat), i + k = D 3 → wp E 168 21 [.ref 92, .int (nI x), .int (nI i)] [] (ip_u2 σ 102 x (nI (bits (trd D x) i))) κ = wp E 168 69 [.ref 92, .int (nI x), .int (nI (D 3))] [] (ip_u2 σ 102 x (nI (bits (trd D x) (D 3)))) κ := by
  have w := hW.1
  intro k
  induction k with
  | zero =>
    intro i hi
    have e0 : (ip_u2 σ 102 x (nI (bits (trd D x) i))) 93 3 = nI (D 3) := by rw [u2_k (by omega)]; exact (MD0 hM).1 3 (by omega)
    have hc : nI (D 3) ≤ nI i := nI_le (by omega) (by omega)
    have hi2 : i = D 3 := by omega
    simp (disch := first | assumption | exact bz0 | exact bz1 | exact bzi | omega | decide +kernel) only [I_168_0, I_168_1, I_168_4, I_168_5, I_168_7, I_168_9, I_168_12, I_168_13, I_168_16, I_168_17, I_168_18, I_168_19, I_168_20, I_168_21, I_168_22, I_168_23, I_168_26, I_168_27, I_168_28, I_168_31, I_168_32, I_168_35, I_168_36, I_168_37, I_168_38, I_168_39, I_168_42, I_168_44, I_168_45, I_168_46, I_168_47, I_168_48, I_168_51, I_168_54, I_168_55, I_168_56, I_168_57, I_168_60, I_168_61, I_168_62, I_168_63, I_168_66, I_168_72, I_168_75, I_168_76, I_168_78, I_168_80, I_168_83, I_168_84, I_168_87, I_168_89, I_168_90, I_168_91, I_168_92, I_168_95, I_168_96, I_168_97, I_168_98, I_168_101, I_168_104, I_168_105, I_168_106, I_168_107, I_168_110, I_168_111, I_168_112, I_168_113, I_168_116, I_168_117, I_168_119, I_168_121, I_168_124, I_168_125, I_168_126, I_168_127, I_168_128, I_168_130, I_168_131, I_168_132, I_168_135, I_168_136, I_168_138, I_168_139, I_168_140, I_168_142, I_168_143, I_168_144, I_168_147, I_168_150, I_168_153, I_168_154, I_168_157, I_168_158, I_168_159, rr_0_0, rr_0_1, rr_0_2, rr_0_3, rr_0_4, rr_0_5, rr_0_6, rr_0_7, rr_0_8, rr_1_0, rr_1_1, rr_1_2, rr_1_3, rr_2_4, rr_2_5, rr_2_6, rr_2_7, rr_2_8, rr_13_0, rr_15_4, rr_15_5, rr_15_6, rr_15_7, rr_15_8, rr_21_4, rr_21_5, rr_21_6, rr_21_7, rr_21_8, rr_27_4, rr_27_5, rr_27_6, rr_27_7, rr_27_8, rr_33_4, rr_33_5, rr_33_6, rr_33_7, rr_33_8, rr_39_4, rr_39_5, rr_39_6, rr_39_7, rr_39_8, rr_45_4, rr_45_5, rr_45_6, rr_45_7, rr_45_8, rr_51_4, rr_51_5, rr_51_6, rr_51_7, rr_51_8, rr_57_4, rr_57_5, rr_57_6, rr_57_7, rr_57_8, rr_63_2, rr_63_3, rr_63_4, rr_63_5, rr_68_0, rr_70_1, rr_70_2, rr_74_4, rr_74_5, rr_74_6, rr_74_7, rr_74_8, rr_80_4, rr_80_5, rr_80_6, rr_80_7, rr_80_8, rr_86_2, rr_88_2, rr_90_2, rr_92_0, rr_92_1, rr_92_5, rr_92_6, rr_92_8, rr_92_9, rr_92_12, rr_92_15, rr_92_16, rr_92_17, e0, hc, ↓reduceIte]
    rw [hi2]
  | succ k ih =>
    intro i hi
    have e0 : (ip_u2 σ 102 x (nI (bits (trd D x) i))) 93 3 = nI (D 3) := by rw [u2_k (by omega)]; exact (MD0 hM).1 3 (by omega)
    have e1 : (ip_u2 σ 102 x (nI (bits (trd D x) i))) 93 (16 + i) = nI (D (16 + i)) := by rw [u2_k (by omega)]; exact (MD0 hM).2.1 i (by omega)
    have hc : ¬ nI (D 3) ≤ nI i := nI_ge (by omega) (by omega)
    have e2 : bits (trd D x) (i + 1) = bits (trd D x) i ||| (if (D (16 + i)).testBit x = true then 2 ^ i else 0) := rfl
    have ih1 := ih (i + 1) (by omega)
    rw [e2] at ih1
    rw [I_168_21]
    simp (disch := first | assumption | exact bz0 | exact bz1 | exact bzi | omega | decide +kernel) only [I_168_0, I_168_1, I_168_4, I_168_5, I_168_7, I_168_9, I_168_12, I_168_13, I_168_16, I_168_17, I_168_18, I_168_19, I_168_20, I_168_22, I_168_23, I_168_26, I_168_27, I_168_28, I_168_31, I_168_32, I_168_35, I_168_36, I_168_37, I_168_38, I_168_39, I_168_42, I_168_44, I_168_45, I_168_46, I_168_47, I_168_48, I_168_51, I_168_54, I_168_55, I_168_56, I_168_57, I_168_60, I_168_61, I_168_62, I_168_63, I_168_66, I_168_72, I_168_75, I_168_76, I_168_78, I_168_80, I_168_83, I_168_84, I_168_87, I_168_89, I_168_90, I_168_91, I_168_92, I_168_95, I_168_96, I_168_97, I_168_98, I_168_101, I_168_104, I_168_105, I_168_106, I_168_107, I_168_110, I_168_111, I_168_112, I_168_113, I_168_116, I_168_117, I_168_119, I_168_121, I_168_124, I_168_125, I_168_126, I_168_127, I_168_128, I_168_130, I_168_131, I_168_132, I_168_135, I_168_136, I_168_138, I_168_139, I_168_140, I_168_142, I_168_143, I_168_144, I_168_147, I_168_150, I_168_153, I_168_154, I_168_157, I_168_158, I_168_159, rr_0_0, rr_0_1, rr_0_2, rr_0_3, rr_0_4, rr_0_5, rr_0_6, rr_0_7, rr_0_8, rr_1_0, rr_1_1, rr_1_2, rr_1_3, rr_2_4, rr_2_5, rr_2_6, rr_2_7, rr_2_8, rr_13_0, rr_15_4, rr_15_5, rr_15_6, rr_15_7, rr_15_8, rr_21_4, rr_21_5, rr_21_6, rr_21_7, rr_21_8, rr_27_4, rr_27_5, rr_27_6, rr_27_7, rr_27_8, rr_33_4, rr_33_5, rr_33_6, rr_33_7, rr_33_8, rr_39_4, rr_39_5, rr_39_6, rr_39_7, rr_39_8, rr_45_4, rr_45_5, rr_45_6, rr_45_7, rr_45_8, rr_51_4, rr_51_5, rr_51_6, rr_51_7, rr_51_8, rr_57_4, rr_57_5, rr_57_6, rr_57_7, rr_57_8, rr_63_2, rr_63_3, rr_63_4, rr_63_5, rr_68_0, rr_70_1, rr_70_2, rr_74_4, rr_74_5, rr_74_6, rr_74_7, rr_74_8, rr_80_4, rr_80_5, rr_80_6, rr_80_7, rr_80_8, rr_86_2, rr_88_2, rr_90_2, rr_92_0, rr_92_1, rr_92_5, rr_92_6, rr_92_8, rr_92_9, rr_92_12, rr_92_15, rr_92_16, rr_92_17, e0, e1, hc, ↓reduceIte, nI_add, u2_s, m_has E _ (show x < 32 by omega), bt_nI (show x < 32 by omega), Option.toList_some, List.cons_append, List.nil_append]
    cases hu : (D (16 + i)).testBit x with
    | true =>
      rw [hu] at ih1
      simp (disch := first | assumption | exact bz0 | exact bz1 | exact bzi | omega | decide +kernel) only [I_168_0, I_168_1, I_168_4, I_168_5, I_168_7, I_168_9, I_168_12, I_168_13, I_168_16, I_168_17, I_168_18, I_168_19, I_168_20, I_168_22, I_168_23, I_168_26, I_168_27, I_168_28, I_168_31, I_168_32, I_168_35, I_168_36, I_168_37, I_168_38, I_168_39, I_168_42, I_168_44, I_168_45, I_168_46, I_168_47, I_168_48, I_168_51, I_168_54, I_168_55, I_168_56, I_168_57, I_168_60, I_168_61, I_168_62, I_168_63, I_168_66, I_168_72, I_168_75, I_168_76, I_168_78, I_168_80, I_168_83, I_168_84, I_168_87, I_168_89, I_168_90, I_168_91, I_168_92, I_168_95, I_168_96, I_168_97, I_168_98, I_168_101, I_168_104, I_168_105, I_168_106, I_168_107, I_168_110, I_168_111, I_168_112, I_168_113, I_168_116, I_168_117, I_168_119, I_168_121, I_168_124, I_168_125, I_168_126, I_168_127, I_168_128, I_168_130, I_168_131, I_168_132, I_168_135, I_168_136, I_168_138, I_168_139, I_168_140, I_168_142, I_168_143, I_168_144, I_168_147, I_168_150, I_168_153, I_168_154, I_168_157, I_168_158, I_168_159, rr_0_0, rr_0_1, rr_0_2, rr_0_3, rr_0_4, rr_0_5, rr_0_6, rr_0_7, rr_0_8, rr_1_0, rr_1_1, rr_1_2, rr_1_3, rr_2_4, rr_2_5, rr_2_6, rr_2_7, rr_2_8, rr_13_0, rr_15_4, rr_15_5, rr_15_6, rr_15_7, rr_15_8, rr_21_4, rr_21_5, rr_21_6, rr_21_7, rr_21_8, rr_27_4, rr_27_5, rr_27_6, rr_27_7, rr_27_8, rr_33_4, rr_33_5, rr_33_6, rr_33_7, rr_33_8, rr_39_4, rr_39_5, rr_39_6, rr_39_7, rr_39_8, rr_45_4, rr_45_5, rr_45_6, rr_45_7, rr_45_8, rr_51_4, rr_51_5, rr_51_6, rr_51_7, rr_51_8, rr_57_4, rr_57_5, rr_57_6, rr_57_7, rr_57_8, rr_63_2, rr_63_3, rr_63_4, rr_63_5, rr_68_0, rr_70_1, rr_70_2, rr_74_4, rr_74_5, rr_74_6, rr_74_7, rr_74_8, rr_80_4, rr_80_5, rr_80_6, rr_80_7, rr_80_8, rr_86_2, rr_88_2, rr_90_2, rr_92_0, rr_92_1, rr_92_5, rr_92_6, rr_92_8, rr_92_9, rr_92_12, rr_92_15, rr_92_16, rr_92_17, nb1, ↓reduceIte, nI_shl1 (show i < 31 by omega), nx_or, nI_add, u2_u2]
      exact ih1
    | false =>
      rw [hu] at ih1
      simp only [Bool.false_eq_true, ↓reduceIte] at ih1
      simp (disch := first | assumption | exact bz0 | exact bz1 | exact bzi | omega | decide +kernel) only [I_168_0, I_168_1, I_168_4, I_168_5, I_168_7, I_168_9, I_168_12, I_168_13, I_168_16, I_168_17, I_168_18, I_168_19, I_168_20, I_168_22, I_168_23, I_168_26, I_168_27, I_168_28, I_168_31, I_168_32, I_168_35, I_168_36, I_168_37, I_168_38, I_168_39, I_168_42, I_168_44, I_168_45, I_168_46, I_168_47, I_168_48, I_168_51, I_168_54, I_168_55, I_168_56, I_168_57, I_168_60, I_168_61, I_168_62, I_168_63, I_168_66, I_168_72, I_168_75, I_168_76, I_168_78, I_168_80, I_168_83, I_168_84, I_168_87, I_168_89, I_168_90, I_168_91, I_168_92, I_168_95, I_168_96, I_168_97, I_168_98, I_168_101, I_168_104, I_168_105, I_168_106, I_168_107, I_168_110, I_168_111, I_168_112, I_168_113, I_168_116, I_168_117, I_168_119, I_168_121, I_168_124, I_168_125, I_168_126, I_168_127, I_168_128, I_168_130, I_168_131, I_168_132, I_168_135, I_168_136, I_168_138, I_168_139, I_168_140, I_168_142, I_168_143, I_168_144, I_168_147, I_168_150, I_168_153, I_168_154, I_168_157, I_168_158, I_168_159, rr_0_0, rr_0_1, rr_0_2, rr_0_3, rr_0_4, rr_0_5, rr_0_6, rr_0_7, rr_0_8, rr_1_0, rr_1_1, rr_1_2, rr_1_3, rr_2_4, rr_2_5, rr_2_6, rr_2_7, rr_2_8, rr_13_0, rr_15_4, rr_15_5, rr_15_6, rr_15_7, rr_15_8, rr_21_4, rr_21_5, rr_21_6, rr_21_7, rr_21_8, rr_27_4, rr_27_5, rr_27_6, rr_27_7, rr_27_8, rr_33_4, rr_33_5, rr_33_6, rr_33_7, rr_33_8, rr_39_4, rr_39_5, rr_39_6, rr_39_7, rr_39_8, rr_45_4, rr_45_5, rr_45_6, rr_45_7, rr_45_8, rr_51_4, rr_51_5, rr_51_6, rr_51_7, rr_51_8, rr_57_4, rr_57_5, rr_57_6, rr_57_7, rr_57_8, rr_63_2, rr_63_3, rr_63_4, rr_63_5, rr_68_0, rr_70_1, rr_70_2, rr_74_4, rr_74_5, rr_74_6, rr_74_7, rr_74_8, rr_80_4, rr_80_5, rr_80_6, rr_80_7, rr_80_8, rr_86_2, rr_88_2, rr_90_2, rr_92_0, rr_92_1, rr_92_5, rr_92_6, rr_92_8, rr_92_9, rr_92_12, rr_92_15, rr_92_16, rr_92_17, nb0, ↓reduceIte, nx_or, nI_add, u2_u2]
      exact ih1
def mtI (σ σ' : ip_G) (D : Nat → Nat) (i : Nat) : Prop := (∀ j, j < i → σ' 102 j = nI (bits (trd D j) (D 3))) ∧ ∀ k, k ≠ 102 → σ' k = σ k
theorem L_mturn2 (E : ip_E) {σ : ip_G} {D : Nat → Nat} (hM : MD σ 0 D) (hW : WD D) (κ : Option Value → ip_G → Prop) : ∀ (k i : Nat) (v : Value) (σ' : ip_G), i + k = 6 → mtI σ σ' D i → (∀ v σ2, mtI σ σ2 D 6 → wp E 168 75 [.ref 92, .int (nI 6), v] [] σ2 κ) → wp E 168 6 [.ref 92, .int (nI i), v] [] σ' κ := by
  have w := hW.1
  intro k
  induction k with
  | zero =>
    intro i v σ' hi hI hk
    have hi2 : i = 6 := by omega
    subst hi2
    have hc : nI 6 ≤ nI 6 := nI_le (by omega) (by omega)
    simp (disch := first | assumption | exact bz0 | exact bz1 | exact bzi | omega | decide +kernel) only [I_168_0, I_168_1, I_168_4, I_168_5, I_168_6, I_168_7, I_168_9, I_168_12, I_168_13, I_168_16, I_168_17, I_168_18, I_168_19, I_168_20, I_168_22, I_168_23, I_168_26, I_168_27, I_168_28, I_168_31, I_168_32, I_168_35, I_168_36, I_168_37, I_168_38, I_168_39, I_168_42, I_168_44, I_168_45, I_168_46, I_168_47, I_168_48, I_168_51, I_168_54, I_168_55, I_168_56, I_168_57, I_168_60, I_168_61, I_168_62, I_168_63, I_168_66, I_168_69, I_168_72, I_168_76, I_168_78, I_168_80, I_168_83, I_168_84, I_168_87, I_168_89, I_168_90, I_168_91, I_168_92, I_168_95, I_168_96, I_168_97, I_168_98, I_168_101, I_168_104, I_168_105, I_168_106, I_168_107, I_168_110, I_168_111, I_168_112, I_168_113, I_168_116, I_168_117, I_168_119, I_168_121, I_168_124, I_168_125, I_168_126, I_168_127, I_168_128, I_168_130, I_168_131, I_168_132, I_168_135, I_168_136, I_168_138, I_168_139, I_168_140, I_168_142, I_168_143, I_168_144, I_168_147, I_168_150, I_168_153, I_168_154, I_168_157, I_168_158, I_168_159, hc, ↓reduceIte]
    exact hk v σ' hI
  | succ k ih =>
    intro i v σ' hi hI hk
    have hc : ¬ nI 6 ≤ nI i := nI_ge (by omega) (by omega)
    rw [I_168_6]
    simp (disch := first | assumption | exact bz0 | exact bz1 | exact bzi | omega | decide +kernel) only [I_168_0, I_168_1, I_168_4, I_168_5, I_168_7, I_168_9, I_168_12, I_168_13, I_168_16, I_168_17, I_168_18, I_168_19, I_168_20, I_168_22, I_168_23, I_168_26, I_168_27, I_168_28, I_168_31, I_168_32, I_168_35, I_168_36, I_168_37, I_168_38, I_168_39, I_168_42, I_168_44, I_168_45, I_168_46, I_168_47, I_168_48, I_168_51, I_168_54, I_168_55, I_168_56, I_168_57, I_168_60, I_168_61, I_168_62, I_168_63, I_168_66, I_168_69, I_168_72, I_168_76, I_168_78, I_168_80, I_168_83, I_168_84, I_168_87, I_168_89, I_168_90, I_168_91, I_168_92, I_168_95, I_168_96, I_168_97, I_168_98, I_168_101, I_168_104, I_168_105, I_168_106, I_168_107, I_168_110, I_168_111, I_168_112, I_168_113, I_168_116, I_168_117, I_168_119, I_168_121, I_168_124, I_168_125, I_168_126, I_168_127, I_168_128, I_168_130, I_168_131, I_168_132, I_168_135, I_168_136, I_168_138, I_168_139, I_168_140, I_168_142, I_168_143, I_168_144, I_168_147, I_168_150, I_168_153, I_168_154, I_168_157, I_168_158, I_168_159, rr_0_0, rr_0_1, rr_0_2, rr_0_3, rr_0_4, rr_0_5, rr_0_6, rr_0_7, rr_0_8, rr_1_0, rr_1_1, rr_1_2, rr_1_3, rr_2_4, rr_2_5, rr_2_6, rr_2_7, rr_2_8, rr_13_0, rr_15_4, rr_15_5, rr_15_6, rr_15_7, rr_15_8, rr_21_4, rr_21_5, rr_21_6, rr_21_7, rr_21_8, rr_27_4, rr_27_5, rr_27_6, rr_27_7, rr_27_8, rr_33_4, rr_33_5, rr_33_6, rr_33_7, rr_33_8, rr_39_4, rr_39_5, rr_39_6, rr_39_7, rr_39_8, rr_45_4, rr_45_5, rr_45_6, rr_45_7, rr_45_8, rr_51_4, rr_51_5, rr_51_6, rr_51_7, rr_51_8, rr_57_4, rr_57_5, rr_57_6, rr_57_7, rr_57_8, rr_63_2, rr_63_3, rr_63_4, rr_63_5, rr_68_0, rr_70_1, rr_70_2, rr_74_4, rr_74_5, rr_74_6, rr_74_7, rr_74_8, rr_80_4, rr_80_5, rr_80_6, rr_80_7, rr_80_8, rr_86_2, rr_88_2, rr_90_2, rr_92_0, rr_92_1, rr_92_5, rr_92_6, rr_92_8, rr_92_9, rr_92_12, rr_92_15, rr_92_16, rr_92_17, hc, ↓reduceIte]
    have hM' : MD σ' 0 D := MD_fr hW hM (fun j _ _ => by rw [hI.2 93 (by omega)])
    have L := L_mturn1 E hM' hW (x := i) (by omega) κ (D 3) 0 (by omega)
    rw [show bits (trd D i) 0 = 0 from rfl] at L
    rw [L]
    simp (disch := first | assumption | exact bz0 | exact bz1 | exact bzi | omega | decide +kernel) only [I_168_0, I_168_1, I_168_4, I_168_5, I_168_7, I_168_9, I_168_12, I_168_13, I_168_16, I_168_17, I_168_18, I_168_19, I_168_20, I_168_22, I_168_23, I_168_26, I_168_27, I_168_28, I_168_31, I_168_32, I_168_35, I_168_36, I_168_37, I_168_38, I_168_39, I_168_42, I_168_44, I_168_45, I_168_46, I_168_47, I_168_48, I_168_51, I_168_54, I_168_55, I_168_56, I_168_57, I_168_60, I_168_61, I_168_62, I_168_63, I_168_66, I_168_69, I_168_72, I_168_76, I_168_78, I_168_80, I_168_83, I_168_84, I_168_87, I_168_89, I_168_90, I_168_91, I_168_92, I_168_95, I_168_96, I_168_97, I_168_98, I_168_101, I_168_104, I_168_105, I_168_106, I_168_107, I_168_110, I_168_111, I_168_112, I_168_113, I_168_116, I_168_117, I_168_119, I_168_121, I_168_124, I_168_125, I_168_126, I_168_127, I_168_128, I_168_130, I_168_131, I_168_132, I_168_135, I_168_136, I_168_138, I_168_139, I_168_140, I_168_142, I_168_143, I_168_144, I_168_147, I_168_150, I_168_153, I_168_154, I_168_157, I_168_158, I_168_159, nI_add]
    refine ih (i + 1) _ _ (by omega) ⟨fun j hj => ?_, fun b hb => by rw [u2_f hb]; exact hI.2 b hb⟩ hk
    by_cases e : j = i
    · subst e; rw [u2_s]
    · rw [u2_i e]; exact hI.1 j (by omega)
def mtJ (σ σ' : ip_G) (i : Nat) : Prop := (∀ j, j < i → σ' 93 (16 + j) = σ 102 j) ∧ (∀ j, j < 16 ∨ 22 ≤ j → σ' 93 j = σ 93 j) ∧ ∀ k, k ≠ 93 → σ' k = σ k
theorem L_mturn3 (E : ip_E) {σ : ip_G} (v : Value) (κ : Option Value → ip_G → Prop) : ∀ (k i : Nat) (σ' : ip_G), i + k = 6 → mtJ σ σ' i → (∀ σ2, mtJ σ σ2 6 → wp E 168 104 [.ref 92, .int (nI 6), v] [] σ2 κ) → wp E 168 77 [.ref 92, .int (nI i), v] [] σ' κ := by
  intro k
  induction k with
  | zero =>
    intro i σ' hi hI hk
    have hi2 : i = 6 := by omega
    subst hi2
    have hc : nI 6 ≤ nI 6 := nI_le (by omega) (by omega)
    simp (disch := first | assumption | exact bz0 | exact bz1 | exact bzi | omega | decide +kernel) only [I_168_0, I_168_1, I_168_4, I_168_5, I_168_7, I_168_9, I_168_12, I_168_13, I_168_16, I_168_17, I_168_18, I_168_19, I_168_20, I_168_22, I_168_23, I_168_26, I_168_27, I_168_28, I_168_31, I_168_32, I_168_35, I_168_36, I_168_37, I_168_38, I_168_39, I_168_42, I_168_44, I_168_45, I_168_46, I_168_47, I_168_48, I_168_51, I_168_54, I_168_55, I_168_56, I_168_57, I_168_60, I_168_61, I_168_62, I_168_63, I_168_66, I_168_69, I_168_72, I_168_75, I_168_76, I_168_77, I_168_78, I_168_80, I_168_83, I_168_84, I_168_87, I_168_89, I_168_90, I_168_91, I_168_92, I_168_95, I_168_96, I_168_97, I_168_98, I_168_101, I_168_105, I_168_106, I_168_107, I_168_110, I_168_111, I_168_112, I_168_113, I_168_116, I_168_117, I_168_119, I_168_121, I_168_124, I_168_125, I_168_126, I_168_127, I_168_128, I_168_130, I_168_131, I_168_132, I_168_135, I_168_136, I_168_138, I_168_139, I_168_140, I_168_142, I_168_143, I_168_144, I_168_147, I_168_150, I_168_153, I_168_154, I_168_157, I_168_158, I_168_159, hc, ↓reduceIte]
    exact hk σ' hI
  | succ k ih =>
    intro i σ' hi hI hk
    have hc : ¬ nI 6 ≤ nI i := nI_ge (by omega) (by omega)
    rw [I_168_77]
    simp (disch := first | assumption | exact bz0 | exact bz1 | exact bzi | omega | decide +kernel) only [I_168_0, I_168_1, I_168_4, I_168_5, I_168_7, I_168_9, I_168_12, I_168_13, I_168_16, I_168_17, I_168_18, I_168_19, I_168_20, I_168_22, I_168_23, I_168_26, I_168_27, I_168_28, I_168_31, I_168_32, I_168_35, I_168_36, I_168_37, I_168_38, I_168_39, I_168_42, I_168_44, I_168_45, I_168_46, I_168_47, I_168_48, I_168_51, I_168_54, I_168_55, I_168_56, I_168_57, I_168_60, I_168_61, I_168_62, I_168_63, I_168_66, I_168_69, I_168_72, I_168_75, I_168_76, I_168_78, I_168_80, I_168_83, I_168_84, I_168_87, I_168_89, I_168_90, I_168_91, I_168_92, I_168_95, I_168_96, I_168_97, I_168_98, I_168_101, I_168_105, I_168_106, I_168_107, I_168_110, I_168_111, I_168_112, I_168_113, I_168_116, I_168_117, I_168_119, I_168_121, I_168_124, I_168_125, I_168_126, I_168_127, I_168_128, I_168_130, I_168_131, I_168_132, I_168_135, I_168_136, I_168_138, I_168_139, I_168_140, I_168_142, I_168_143, I_168_144, I_168_147, I_168_150, I_168_153, I_168_154, I_168_157, I_168_158, I_168_159, rr_0_0, rr_0_1, rr_0_2, rr_0_3, rr_0_4, rr_0_5, rr_0_6, rr_0_7, rr_0_8, rr_1_0, rr_1_1, rr_1_2, rr_1_3, rr_2_4, rr_2_5, rr_2_6, rr_2_7, rr_2_8, rr_13_0, rr_15_4, rr_15_5, rr_15_6, rr_15_7, rr_15_8, rr_21_4, rr_21_5, rr_21_6, rr_21_7, rr_21_8, rr_27_4, rr_27_5, rr_27_6, rr_27_7, rr_27_8, rr_33_4, rr_33_5, rr_33_6, rr_33_7, rr_33_8, rr_39_4, rr_39_5, rr_39_6, rr_39_7, rr_39_8, rr_45_4, rr_45_5, rr_45_6, rr_45_7, rr_45_8, rr_51_4, rr_51_5, rr_51_6, rr_51_7, rr_51_8, rr_57_4, rr_57_5, rr_57_6, rr_57_7, rr_57_8, rr_63_2, rr_63_3, rr_63_4, rr_63_5, rr_68_0, rr_70_1, rr_70_2, rr_74_4, rr_74_5, rr_74_6, rr_74_7, rr_74_8, rr_80_4, rr_80_5, rr_80_6, rr_80_7, rr_80_8, rr_86_2, rr_88_2, rr_90_2, rr_92_0, rr_92_1, rr_92_5, rr_92_6, rr_92_8, rr_92_9, rr_92_12, rr_92_15, rr_92_16, rr_92_17, hc, ↓reduceIte, nI_add]
    refine ih (i + 1) _ (by omega) ⟨fun j hj => ?_, fun j hj => ?_, fun b hb => by rw [u2_f hb]; exact hI.2.2 b hb⟩ hk
    · by_cases e : j = i
      · subst e; rw [u2_s, hI.2.2 102 (by omega)]
      · rw [u2_i (by omega)]; exact hI.1 j (by omega)
    · rw [u2_i (by omega)]; exact hI.2.1 j hj
def mtK (σ σ' : ip_G) (i : Nat) : Prop := (∀ j, j < i → σ' 93 (4 + j) = σ 93 (22 + j) ∧ σ' 93 (22 + j) = σ 93 (4 + j) ∧ σ' 93 (34 + j) = σ 93 (46 + j) ∧ σ' 93 (46 + j) = σ 93 (34 + j)) ∧ (∀ j, i ≤ j → j < 12 → σ' 93 (4 + j) = σ 93 (4 + j) ∧ σ' 93 (22 + j) = σ 93 (22 + j) ∧ σ' 93 (34 + j) = σ 93 (34 + j) ∧ σ' 93 (46 + j) = σ 93 (46 + j)) ∧ (∀ j, j < 4 ∨ (16 ≤ j ∧ j < 22) ∨ 58 ≤ j → σ' 93 j = σ 93 j) ∧ ∀ k, k ≠ 93 → σ' k = σ k
theorem L_mturn4 (E : ip_E) {σ : ip_G} (v : Value) (κ : Option Value → ip_G → Prop) : ∀ (k i : Nat) (σ' : ip_G), i + k = 12 → mtK σ σ' i → (∀ σ2, mtK σ σ2 12 → κ (some (.int (σ2 93 0))) σ2) → wp E 168 118 [.ref 92, .int (nI i), v] [] σ' κ := by
  intro k
  induction k with
  | zero =>
    intro i σ' hi hI hk
    have hi2 : i = 12 := by omega
    subst hi2
    have hc : nI 12 ≤ nI 12 := nI_le (by omega) (by omega)
    simp (disch := first | assumption | exact bz0 | exact bz1 | exact bzi | omega | decide +kernel) only [I_168_0, I_168_1, I_168_4, I_168_5, I_168_7, I_168_9, I_168_12, I_168_13, I_168_16, I_168_17, I_168_18, I_168_19, I_168_20, I_168_22, I_168_23, I_168_26, I_168_27, I_168_28, I_168_31, I_168_32, I_168_35, I_168_36, I_168_37, I_168_38, I_168_39, I_168_42, I_168_44, I_168_45, I_168_46, I_168_47, I_168_48, I_168_51, I_168_54, I_168_55, I_168_56, I_168_57, I_168_60, I_168_61, I_168_62, I_168_63, I_168_66, I_168_69, I_168_72, I_168_75, I_168_76, I_168_78, I_168_80, I_168_83, I_168_84, I_168_87, I_168_89, I_168_90, I_168_91, I_168_92, I_168_95, I_168_96, I_168_97, I_168_98, I_168_101, I_168_104, I_168_105, I_168_106, I_168_107, I_168_110, I_168_111, I_168_112, I_168_113, I_168_116, I_168_117, I_168_118, I_168_119, I_168_121, I_168_124, I_168_125, I_168_126, I_168_127, I_168_128, I_168_130, I_168_131, I_168_132, I_168_135, I_168_136, I_168_138, I_168_139, I_168_140, I_168_142, I_168_143, I_168_144, I_168_147, I_168_150, I_168_153, I_168_154, I_168_157, I_168_158, I_168_159, rr_0_0, rr_0_1, rr_0_2, rr_0_3, rr_0_4, rr_0_5, rr_0_6, rr_0_7, rr_0_8, rr_1_0, rr_1_1, rr_1_2, rr_1_3, rr_2_4, rr_2_5, rr_2_6, rr_2_7, rr_2_8, rr_13_0, rr_15_4, rr_15_5, rr_15_6, rr_15_7, rr_15_8, rr_21_4, rr_21_5, rr_21_6, rr_21_7, rr_21_8, rr_27_4, rr_27_5, rr_27_6, rr_27_7, rr_27_8, rr_33_4, rr_33_5, rr_33_6, rr_33_7, rr_33_8, rr_39_4, rr_39_5, rr_39_6, rr_39_7, rr_39_8, rr_45_4, rr_45_5, rr_45_6, rr_45_7, rr_45_8, rr_51_4, rr_51_5, rr_51_6, rr_51_7, rr_51_8, rr_57_4, rr_57_5, rr_57_6, rr_57_7, rr_57_8, rr_63_2, rr_63_3, rr_63_4, rr_63_5, rr_68_0, rr_70_1, rr_70_2, rr_74_4, rr_74_5, rr_74_6, rr_74_7, rr_74_8, rr_80_4, rr_80_5, rr_80_6, rr_80_7, rr_80_8, rr_86_2, rr_88_2, rr_90_2, rr_92_0, rr_92_1, rr_92_5, rr_92_6, rr_92_8, rr_92_9, rr_92_12, rr_92_15, rr_92_16, rr_92_17, hc, ↓reduceIte]
    exact hk σ' hI
  | succ k ih =>
    intro i σ' hi hI hk
    have hc : ¬ nI 12 ≤ nI i := nI_ge (by omega) (by omega)
    rw [I_168_118]
    simp (disch := first | assumption | exact bz0 | exact bz1 | exact bzi | omega | decide +kernel) only [I_168_0, I_168_1, I_168_4, I_168_5, I_168_7, I_168_9, I_168_12, I_168_13, I_168_16, I_168_17, I_168_18, I_168_19, I_168_20, I_168_22, I_168_23, I_168_26, I_168_27, I_168_28, I_168_31, I_168_32, I_168_35, I_168_36, I_168_37, I_168_38, I_168_39, I_168_42, I_168_44, I_168_45, I_168_46, I_168_47, I_168_48, I_168_51, I_168_54, I_168_55, I_168_56, I_168_57, I_168_60, I_168_61, I_168_62, I_168_63, I_168_66, I_168_69, I_168_72, I_168_75, I_168_76, I_168_78, I_168_80, I_168_83, I_168_84, I_168_87, I_168_89, I_168_90, I_168_91, I_168_92, I_168_95, I_168_96, I_168_97, I_168_98, I_168_101, I_168_104, I_168_105, I_168_106, I_168_107, I_168_110, I_168_111, I_168_112, I_168_113, I_168_116, I_168_117, I_168_119, I_168_121, I_168_124, I_168_125, I_168_126, I_168_127, I_168_128, I_168_130, I_168_131, I_168_132, I_168_135, I_168_136, I_168_138, I_168_139, I_168_140, I_168_142, I_168_143, I_168_144, I_168_147, I_168_150, I_168_153, I_168_154, I_168_157, I_168_158, I_168_159, rr_0_0, rr_0_1, rr_0_2, rr_0_3, rr_0_4, rr_0_5, rr_0_6, rr_0_7, rr_0_8, rr_1_0, rr_1_1, rr_1_2, rr_1_3, rr_2_4, rr_2_5, rr_2_6, rr_2_7, rr_2_8, rr_13_0, rr_15_4, rr_15_5, rr_15_6, rr_15_7, rr_15_8, rr_21_4, rr_21_5, rr_21_6, rr_21_7, rr_21_8, rr_27_4, rr_27_5, rr_27_6, rr_27_7, rr_27_8, rr_33_4, rr_33_5, rr_33_6, rr_33_7, rr_33_8, rr_39_4, rr_39_5, rr_39_6, rr_39_7, rr_39_8, rr_45_4, rr_45_5, rr_45_6, rr_45_7, rr_45_8, rr_51_4, rr_51_5, rr_51_6, rr_51_7, rr_51_8, rr_57_4, rr_57_5, rr_57_6, rr_57_7, rr_57_8, rr_63_2, rr_63_3, rr_63_4, rr_63_5, rr_68_0, rr_70_1, rr_70_2, rr_74_4, rr_74_5, rr_74_6, rr_74_7, rr_74_8, rr_80_4, rr_80_5, rr_80_6, rr_80_7, rr_80_8, rr_86_2, rr_88_2, rr_90_2, rr_92_0, rr_92_1, rr_92_5, rr_92_6, rr_92_8, rr_92_9, rr_92_12, rr_92_15, rr_92_16, rr_92_17, hc, ↓reduceIte, nI_add, m_swap E (show 4 + i < 638 by omega) (show 22 + i < 638 by omega), m_swap E (show 34 + i < 638 by omega) (show 46 + i < 638 by omega), Option.toList_none, List.nil_append]
    obtain ⟨i1, i2, i3, i4⟩ := hI
    refine ih (i + 1) _ (by omega) ⟨fun j hj => ?_, fun j h1 h2 => ?_, fun j hj => ?_, fun b hb => by rw [sw2_k hb, sw2_k hb]; exact i4 b hb⟩ hk
    · by_cases e : j = i
      · subst e
        obtain ⟨z1, z2, z3, z4⟩ := i2 j (by omega) (by omega)
        refine ⟨?_, ?_, ?_, ?_⟩
        · rw [sw2_n (by omega) (by omega), sw2_a]; exact z2
        · rw [sw2_n (by omega) (by omega), sw2_b]; exact z1
        · rw [sw2_a, sw2_n (by omega) (by omega)]; exact z4
        · rw [sw2_b, sw2_n (by omega) (by omega)]; exact z3
      · obtain ⟨z1, z2, z3, z4⟩ := i1 j (by omega)
        refine ⟨?_, ?_, ?_, ?_⟩
        · rw [sw2_n (by omega) (by omega), sw2_n (by omega) (by omega)]; exact z1
        · rw [sw2_n (by omega) (by omega), sw2_n (by omega) (by omega)]; exact z2
        · rw [sw2_n (by omega) (by omega), sw2_n (by omega) (by omega)]; exact z3
        · rw [sw2_n (by omega) (by omega), sw2_n (by omega) (by omega)]; exact z4
    · obtain ⟨z1, z2, z3, z4⟩ := i2 j (by omega) (by omega)
      refine ⟨?_, ?_, ?_, ?_⟩
      · rw [sw2_n (by omega) (by omega), sw2_n (by omega) (by omega)]; exact z1
      · rw [sw2_n (by omega) (by omega), sw2_n (by omega) (by omega)]; exact z2
      · rw [sw2_n (by omega) (by omega), sw2_n (by omega) (by omega)]; exact z3
      · rw [sw2_n (by omega) (by omega), sw2_n (by omega) (by omega)]; exact z4
    · rw [sw2_n (by omega) (by omega), sw2_n (by omega) (by omega)]; exact i3 j hj
def frM2 (σ σ' : ip_G) : Prop := (∀ k, k ≠ 92 → k ≠ 93 → k ≠ 102 → σ' k = σ k) ∧ (∀ j, j ≠ 4 → σ' 92 j = σ 92 j) ∧ (∀ j, 522 ≤ j → σ' 93 j = σ 93 j)
theorem m_turn (E : ip_E) {σ : ip_G} {n : Nat} {P : Nat → Nat → Nat} {D : Nat → Nat} (hP : MP σ n P) (hM : MD σ 0 D) (hW : WD D) (κ : Option Value → ip_G → Prop) (hk : ∀ σ', MP σ' (pN n) (pP n P D) → MD σ' 0 (tnN D) → frM2 σ σ' → κ (some (.int (nI (D 1)))) σ') : wp E 168 0 [.ref 92, .retAddr 0, .retAddr 0] [] σ κ := by
  have w := hW.1
  simp (disch := first | assumption | exact bz0 | exact bz1 | exact bzi | omega | decide +kernel) only [I_168_0, I_168_1, I_168_4, I_168_5, I_168_7, I_168_9, I_168_12, I_168_13, I_168_16, I_168_17, I_168_18, I_168_19, I_168_20, I_168_22, I_168_23, I_168_26, I_168_27, I_168_28, I_168_31, I_168_32, I_168_35, I_168_36, I_168_37, I_168_38, I_168_39, I_168_42, I_168_44, I_168_45, I_168_46, I_168_47, I_168_48, I_168_51, I_168_54, I_168_55, I_168_56, I_168_57, I_168_60, I_168_61, I_168_62, I_168_63, I_168_66, I_168_69, I_168_72, I_168_75, I_168_76, I_168_78, I_168_80, I_168_83, I_168_84, I_168_87, I_168_89, I_168_90, I_168_91, I_168_92, I_168_95, I_168_96, I_168_97, I_168_98, I_168_101, I_168_104, I_168_105, I_168_106, I_168_107, I_168_110, I_168_111, I_168_112, I_168_113, I_168_116, I_168_117, I_168_119, I_168_121, I_168_124, I_168_125, I_168_126, I_168_127, I_168_128, I_168_130, I_168_131, I_168_132, I_168_135, I_168_136, I_168_138, I_168_139, I_168_140, I_168_142, I_168_143, I_168_144, I_168_147, I_168_150, I_168_153, I_168_154, I_168_157, I_168_158, I_168_159]
  refine m_keepPast E hP hM hW _ (fun σ1 h1 h2 h3 h5 => ?_)
  have hM1 : MD σ1 0 D := MD_fr hW hM (fun j a b => h5 j (by omega))
  simp (disch := first | assumption | exact bz0 | exact bz1 | exact bzi | omega | decide +kernel) only [I_168_0, I_168_1, I_168_4, I_168_5, I_168_7, I_168_9, I_168_12, I_168_13, I_168_16, I_168_17, I_168_18, I_168_19, I_168_20, I_168_22, I_168_23, I_168_26, I_168_27, I_168_28, I_168_31, I_168_32, I_168_35, I_168_36, I_168_37, I_168_38, I_168_39, I_168_42, I_168_44, I_168_45, I_168_46, I_168_47, I_168_48, I_168_51, I_168_54, I_168_55, I_168_56, I_168_57, I_168_60, I_168_61, I_168_62, I_168_63, I_168_66, I_168_69, I_168_72, I_168_75, I_168_76, I_168_78, I_168_80, I_168_83, I_168_84, I_168_87, I_168_89, I_168_90, I_168_91, I_168_92, I_168_95, I_168_96, I_168_97, I_168_98, I_168_101, I_168_104, I_168_105, I_168_106, I_168_107, I_168_110, I_168_111, I_168_112, I_168_113, I_168_116, I_168_117, I_168_119, I_168_121, I_168_124, I_168_125, I_168_126, I_168_127, I_168_128, I_168_130, I_168_131, I_168_132, I_168_135, I_168_136, I_168_138, I_168_139, I_168_140, I_168_142, I_168_143, I_168_144, I_168_147, I_168_150, I_168_153, I_168_154, I_168_157, I_168_158, I_168_159, rr_0_0, rr_0_1, rr_0_2, rr_0_3, rr_0_4, rr_0_5, rr_0_6, rr_0_7, rr_0_8, rr_1_0, rr_1_1, rr_1_2, rr_1_3, rr_2_4, rr_2_5, rr_2_6, rr_2_7, rr_2_8, rr_13_0, rr_15_4, rr_15_5, rr_15_6, rr_15_7, rr_15_8, rr_21_4, rr_21_5, rr_21_6, rr_21_7, rr_21_8, rr_27_4, rr_27_5, rr_27_6, rr_27_7, rr_27_8, rr_33_4, rr_33_5, rr_33_6, rr_33_7, rr_33_8, rr_39_4, rr_39_5, rr_39_6, rr_39_7, rr_39_8, rr_45_4, rr_45_5, rr_45_6, rr_45_7, rr_45_8, rr_51_4, rr_51_5, rr_51_6, rr_51_7, rr_51_8, rr_57_4, rr_57_5, rr_57_6, rr_57_7, rr_57_8, rr_63_2, rr_63_3, rr_63_4, rr_63_5, rr_68_0, rr_70_1, rr_70_2, rr_74_4, rr_74_5, rr_74_6, rr_74_7, rr_74_8, rr_80_4, rr_80_5, rr_80_6, rr_80_7, rr_80_8, rr_86_2, rr_88_2, rr_90_2, rr_92_0, rr_92_1, rr_92_5, rr_92_6, rr_92_8, rr_92_9, rr_92_12, rr_92_15, rr_92_16, rr_92_17, Option.toList_none, List.nil_append]
  refine L_mturn2 E hM1 hW κ 6 0 _ σ1 (by omega) ⟨fun j hj => absurd hj (by omega), fun _ _ => rfl⟩ (fun v σ2 g2 => ?_)
  simp (disch := first | assumption | exact bz0 | exact bz1 | exact bzi | omega | decide +kernel) only [I_168_0, I_168_1, I_168_4, I_168_5, I_168_7, I_168_9, I_168_12, I_168_13, I_168_16, I_168_17, I_168_18, I_168_19, I_168_20, I_168_22, I_168_23, I_168_26, I_168_27, I_168_28, I_168_31, I_168_32, I_168_35, I_168_36, I_168_37, I_168_38, I_168_39, I_168_42, I_168_44, I_168_45, I_168_46, I_168_47, I_168_48, I_168_51, I_168_54, I_168_55, I_168_56, I_168_57, I_168_60, I_168_61, I_168_62, I_168_63, I_168_66, I_168_69, I_168_72, I_168_75, I_168_76, I_168_78, I_168_80, I_168_83, I_168_84, I_168_87, I_168_89, I_168_90, I_168_91, I_168_92, I_168_95, I_168_96, I_168_97, I_168_98, I_168_101, I_168_104, I_168_105, I_168_106, I_168_107, I_168_110, I_168_111, I_168_112, I_168_113, I_168_116, I_168_117, I_168_119, I_168_121, I_168_124, I_168_125, I_168_126, I_168_127, I_168_128, I_168_130, I_168_131, I_168_132, I_168_135, I_168_136, I_168_138, I_168_139, I_168_140, I_168_142, I_168_143, I_168_144, I_168_147, I_168_150, I_168_153, I_168_154, I_168_157, I_168_158, I_168_159, rr_0_0, rr_0_1, rr_0_2, rr_0_3, rr_0_4, rr_0_5, rr_0_6, rr_0_7, rr_0_8, rr_1_0, rr_1_1, rr_1_2, rr_1_3, rr_2_4, rr_2_5, rr_2_6, rr_2_7, rr_2_8, rr_13_0, rr_15_4, rr_15_5, rr_15_6, rr_15_7, rr_15_8, rr_21_4, rr_21_5, rr_21_6, rr_21_7, rr_21_8, rr_27_4, rr_27_5, rr_27_6, rr_27_7, rr_27_8, rr_33_4, rr_33_5, rr_33_6, rr_33_7, rr_33_8, rr_39_4, rr_39_5, rr_39_6, rr_39_7, rr_39_8, rr_45_4, rr_45_5, rr_45_6, rr_45_7, rr_45_8, rr_51_4, rr_51_5, rr_51_6, rr_51_7, rr_51_8, rr_57_4, rr_57_5, rr_57_6, rr_57_7, rr_57_8, rr_63_2, rr_63_3, rr_63_4, rr_63_5, rr_68_0, rr_70_1, rr_70_2, rr_74_4, rr_74_5, rr_74_6, rr_74_7, rr_74_8, rr_80_4, rr_80_5, rr_80_6, rr_80_7, rr_80_8, rr_86_2, rr_88_2, rr_90_2, rr_92_0, rr_92_1, rr_92_5, rr_92_6, rr_92_8, rr_92_9, rr_92_12, rr_92_15, rr_92_16, rr_92_17]
  refine L_mturn3 E (σ := σ2) v κ 6 0 _ (by omega) ⟨fun j hj => absurd hj (by omega), fun _ _ => rfl, fun _ _ => rfl⟩ (fun σ3 g3 => ?_)
  simp (disch := first | assumption | exact bz0 | exact bz1 | exact bzi | omega | decide +kernel) only [I_168_0, I_168_1, I_168_4, I_168_5, I_168_7, I_168_9, I_168_12, I_168_13, I_168_16, I_168_17, I_168_18, I_168_19, I_168_20, I_168_22, I_168_23, I_168_26, I_168_27, I_168_28, I_168_31, I_168_32, I_168_35, I_168_36, I_168_37, I_168_38, I_168_39, I_168_42, I_168_44, I_168_45, I_168_46, I_168_47, I_168_48, I_168_51, I_168_54, I_168_55, I_168_56, I_168_57, I_168_60, I_168_61, I_168_62, I_168_63, I_168_66, I_168_69, I_168_72, I_168_75, I_168_76, I_168_78, I_168_80, I_168_83, I_168_84, I_168_87, I_168_89, I_168_90, I_168_91, I_168_92, I_168_95, I_168_96, I_168_97, I_168_98, I_168_101, I_168_104, I_168_105, I_168_106, I_168_107, I_168_110, I_168_111, I_168_112, I_168_113, I_168_116, I_168_117, I_168_119, I_168_121, I_168_124, I_168_125, I_168_126, I_168_127, I_168_128, I_168_130, I_168_131, I_168_132, I_168_135, I_168_136, I_168_138, I_168_139, I_168_140, I_168_142, I_168_143, I_168_144, I_168_147, I_168_150, I_168_153, I_168_154, I_168_157, I_168_158, I_168_159, rr_0_0, rr_0_1, rr_0_2, rr_0_3, rr_0_4, rr_0_5, rr_0_6, rr_0_7, rr_0_8, rr_1_0, rr_1_1, rr_1_2, rr_1_3, rr_2_4, rr_2_5, rr_2_6, rr_2_7, rr_2_8, rr_13_0, rr_15_4, rr_15_5, rr_15_6, rr_15_7, rr_15_8, rr_21_4, rr_21_5, rr_21_6, rr_21_7, rr_21_8, rr_27_4, rr_27_5, rr_27_6, rr_27_7, rr_27_8, rr_33_4, rr_33_5, rr_33_6, rr_33_7, rr_33_8, rr_39_4, rr_39_5, rr_39_6, rr_39_7, rr_39_8, rr_45_4, rr_45_5, rr_45_6, rr_45_7, rr_45_8, rr_51_4, rr_51_5, rr_51_6, rr_51_7, rr_51_8, rr_57_4, rr_57_5, rr_57_6, rr_57_7, rr_57_8, rr_63_2, rr_63_3, rr_63_4, rr_63_5, rr_68_0, rr_70_1, rr_70_2, rr_74_4, rr_74_5, rr_74_6, rr_74_7, rr_74_8, rr_80_4, rr_80_5, rr_80_6, rr_80_7, rr_80_8, rr_86_2, rr_88_2, rr_90_2, rr_92_0, rr_92_1, rr_92_5, rr_92_6, rr_92_8, rr_92_9, rr_92_12, rr_92_15, rr_92_16, rr_92_17, m_swap E (show 0 < 638 by omega) (show 1 < 638 by omega), m_swap E (show 2 < 638 by omega) (show 3 < 638 by omega), Option.toList_none, List.nil_append]
  refine L_mturn4 E (σ := sw2 (sw2 σ3 0 1) 2 3) v κ 12 0 _ (by omega) ⟨fun j hj => absurd hj (by omega), fun _ _ _ => ⟨rfl, rfl, rfl, rfl⟩, fun _ _ => rfl, fun _ _ => rfl⟩ (fun σ4 g4 => ?_)
  obtain ⟨i1, i2, i3, i4⟩ := g4
  obtain ⟨m1, m2, m3⟩ := MD0 hM1
  have r3 : ∀ j, j < 16 ∨ 22 ≤ j → σ3 93 j = σ1 93 j := fun j hj => by rw [g3.2.1 j hj, g2.2 93 (by omega)]
  have q0 : σ4 93 0 = nI (D 1) := by rw [i3 0 (by omega), sw2_n (by omega) (by omega), sw2_a, r3 1 (by omega)]; exact m1 1 (by omega)
  have q1 : σ4 93 1 = nI (D 0) := by rw [i3 1 (by omega), sw2_n (by omega) (by omega), sw2_b, r3 0 (by omega)]; exact m1 0 (by omega)
  have q2 : σ4 93 2 = nI (D 3) := by rw [i3 2 (by omega), sw2_a, sw2_n (by omega) (by omega), r3 3 (by omega)]; exact m1 3 (by omega)
  have q3 : σ4 93 3 = nI (D 2) := by rw [i3 3 (by omega), sw2_b, sw2_n (by omega) (by omega), r3 2 (by omega)]; exact m1 2 (by omega)
  have qq : ∀ j, 4 ≤ j → (j < 16 ∨ 22 ≤ j) → sw2 (sw2 σ3 0 1) 2 3 93 j = σ1 93 j := fun j h4 hj => by rw [sw2_n (by omega) (by omega), sw2_n (by omega) (by omega), r3 j hj]
  rw [q0]
  refine hk σ4 (MP_fr h1 ?_ (fun j a b => ?_)) ⟨fun j hj => ?_, fun i hi => ?_, fun j ha hb => ?_⟩ ⟨fun k a b c => ?_, fun j hj => ?_, fun j hj => ?_⟩
  · rw [i4 92 (by omega), sw2_k (by omega), sw2_k (by omega), g3.2.2 92 (by omega), g2.2 92 (by omega)]
  · rw [i3 j (by omega), qq j (by omega) (by omega)]
  · rw [Nat.zero_add]
    by_cases h4 : j < 4
    · have : j = 0 ∨ j = 1 ∨ j = 2 ∨ j = 3 := by omega
      rcases this with rfl | rfl | rfl | rfl
      · exact q0
      · exact q1
      · exact q2
      · exact q3
    · have := (i1 (j - 4) (by omega)).1
      rw [show 4 + (j - 4) = j by omega, qq (22 + (j - 4)) (by omega) (by omega), m3 (22 + (j - 4)) (by omega) (by omega)] at this
      rw [this, show j = 4 + (j - 4) by omega, tn4 D (by omega), show 4 + (j - 4) - 4 = j - 4 by omega]
  · have hi2 : i < D 2 := hi
    rw [Nat.zero_add, i3 (16 + i) (by omega), sw2_n (by omega) (by omega), sw2_n (by omega) (by omega), g3.1 i (by omega), g2.1 i (by omega), tn16 D (by omega)]
  · rw [Nat.zero_add]
    by_cases c1 : j < 34
    · have := (i1 (j - 22) (by omega)).2.1
      rw [show 22 + (j - 22) = j by omega, qq (4 + (j - 22)) (by omega) (by omega), m1 (4 + (j - 22)) (by omega)] at this
      rw [this, show j = 22 + (j - 22) by omega, tn22 D (by omega), show 22 + (j - 22) - 22 = j - 22 by omega]
    · by_cases c2 : j < 46
      · have := (i1 (j - 34) (by omega)).2.2.1
        rw [show 34 + (j - 34) = j by omega, qq (46 + (j - 34)) (by omega) (by omega), m3 (46 + (j - 34)) (by omega) (by omega)] at this
        rw [this, show j = 34 + (j - 34) by omega, tn34 D (by omega), show 34 + (j - 34) - 34 = j - 34 by omega]
      · have := (i1 (j - 46) (by omega)).2.2.2
        rw [show 46 + (j - 46) = j by omega, qq (34 + (j - 46)) (by omega) (by omega), m3 (34 + (j - 46)) (by omega) (by omega)] at this
        rw [this, show j = 46 + (j - 46) by omega, tn46 D (by omega), show 46 + (j - 46) - 46 = j - 46 by omega]
  · rw [i4 k b, sw2_k b, sw2_k b, g3.2.2 k b, g2.2 k c, h2 k a b]
  · rw [i4 92 (by omega), sw2_k (by omega), sw2_k (by omega), g3.2.2 92 (by omega), g2.2 92 (by omega), h3 j hj]
  · rw [i3 j (by omega), qq j (by omega) (by omega), h5 j (by omega)]
def undoR (n : Nat) : Int32 := if n = 0 then -4 else nI (n - 1)
def undoD (n : Nat) (P : Nat → Nat → Nat) (D : Nat → Nat) : Nat → Nat := if n = 0 then D else P (n - 1)
theorem m_undo (E : ip_E) {σ : ip_G} {n : Nat} {P : Nat → Nat → Nat} {D : Nat → Nat} (hP : MP σ n P) (hM : MD σ 0 D) (hW : WD D) (κ : Option Value → ip_G → Prop) (hk : ∀ σ', MP σ' (n - 1) P → MD σ' 0 (undoD n P D) → frM σ σ' → κ (some (.int (undoR n))) σ') : wp E 170 0 [.ref 92] [] σ κ := by
  have hP2 := hP
  obtain ⟨hn, e4, hr, hPW⟩ := hP
  by_cases h0 : n = 0
  · subst h0
    simp (disch := first | assumption | exact bz0 | exact bz1 | exact bzi | omega | decide +kernel) only [I_170_0, I_170_1, I_170_4, I_170_7, I_170_9, I_170_10, I_170_11, I_170_12, I_170_15, I_170_16, I_170_17, I_170_20, I_170_21, I_170_23, I_170_25, I_170_26, I_170_29, I_170_30, I_170_31, I_170_32, I_170_35, I_170_36, I_170_39, e4, ip_nI0, not_true_eq_false, ↓reduceIte]
    exact hk σ hP2 hM ⟨fun _ _ _ => rfl, fun _ _ => rfl, fun _ _ => rfl⟩
  · have hc : ¬ nI n = 0 := nI_ne0 (by omega) (by omega)
    simp only [undoR, undoD, h0, ↓reduceIte] at hk
    simp (disch := first | assumption | exact bz0 | exact bz1 | exact bzi | omega | decide +kernel) only [I_170_0, I_170_1, I_170_4, I_170_7, I_170_9, I_170_10, I_170_11, I_170_12, I_170_15, I_170_16, I_170_17, I_170_20, I_170_21, I_170_23, I_170_25, I_170_26, I_170_29, I_170_30, I_170_31, I_170_32, I_170_35, I_170_36, I_170_39, e4, hc, not_false_eq_true, ↓reduceIte, pk_sub (show 1 ≤ n by omega), u2_s, pk_mul, nI_add, m_copyRow E (a := 58 + 58 * (n - 1)) (b := 0) (by omega) (by omega) (by omega), Option.toList_none, List.nil_append, cpR_k (show 92 ≠ 93 by omega)]
    refine hk _ ⟨by omega, by rw [cpR_k (by omega), u2_s], fun i hi => MD_fr (hPW i (by omega)) (hr i (by omega)) (fun j a b => by rw [cpR_i (by omega), u2_k (by omega)]), fun i hi => hPW i (by omega)⟩ (MD_mv (hPW (n - 1) (by omega)) (hr (n - 1) (by omega)) (fun j hj => by rw [cpR_s hj, u2_k (by omega)])) ⟨fun k a b => by rw [cpR_k b, u2_f a], fun j hj => by rw [cpR_k (by omega), u2_i hj], fun j hj => by rw [cpR_i (by omega), u2_k (by omega)]⟩
def MK (σ : ip_G) (kb : Nat → Bool) (K : Nat → Nat → Nat) : Prop := ∀ k, k < 2 → σ 95 k = nI (b2n (kb k)) ∧ (kb k = true → MD σ (522 + 58 * k) (K k) ∧ WD (K k))
theorem MK_fr {σ σ' : ip_G} {kb : Nat → Bool} {K : Nat → Nat → Nat} (h : MK σ kb K) (h1 : σ' 95 = σ 95) (hf : ∀ j, 522 ≤ j → j < 638 → σ' 93 j = σ 93 j) : MK σ' kb K := fun k hk => by
  obtain ⟨a, b⟩ := h k hk
  exact ⟨by rw [h1]; exact a, fun z => ⟨MD_fr (b z).2 (b z).1 (fun j c d => hf j (by omega) (by omega)), (b z).2⟩⟩
def keepR (D : Nat → Nat) (x : Int32) : Int32 := if inr x 2 = true then nI (D 0) else -2
def bU (kb : Nat → Bool) (t : Nat) : Nat → Bool := fun a => if a = t then true else kb a
theorem bU_s (kb : Nat → Bool) (t : Nat) : bU kb t t = true := by simp [bU]
theorem bU_n {kb : Nat → Bool} {t a : Nat} (h : a ≠ t) : bU kb t a = kb a := by simp [bU, h]
def keepB (kb : Nat → Bool) (x : Int32) : Nat → Bool := if inr x 2 = true then bU kb (tn x) else kb
def keepK (K : Nat → Nat → Nat) (D : Nat → Nat) (x : Int32) : Nat → Nat → Nat := if inr x 2 = true then zU K (tn x) D else K
theorem inq01 (x : Int32) : inq x 0 1 = inr x 2 := by
  unfold inq inr
  congr 1
  apply propext
  omega
theorem m_keep (E : ip_E) {σ : ip_G} {kb : Nat → Bool} {K : Nat → Nat → Nat} {D : Nat → Nat} (x : Int32) (hK : MK σ kb K) (hM : MD σ 0 D) (hW : WD D) (κ : Option Value → ip_G → Prop) (hk : ∀ σ', MK σ' (keepB kb x) (keepK K D x) → (∀ k, k ≠ 93 → k ≠ 95 → σ' k = σ k) → (∀ j, j < 522 → σ' 93 j = σ 93 j) → κ (some (.int (keepR D x))) σ') : wp E 171 0 [.ref 92, .int x] [] σ κ := by
  by_cases h : inr x 2 = true
  · obtain ⟨t, ht, rfl⟩ := inr_t h
    have ht2 := tn_nI (show t < 2147483648 by omega)
    simp only [keepR, keepB, keepK, h, ht2, ↓reduceIte] at hk
    have e0 : (ip_u2 (cpR σ 0 (522 + 58 * t) 58) 95 t (nI 1)) 93 0 = nI (D 0) := by rw [u2_k (by omega), cpR_i (by omega)]; exact (MD0 hM).1 0 (by omega)
    simp (disch := first | assumption | exact bz0 | exact bz1 | exact bzi | omega | decide +kernel) only [I_171_0, I_171_1, I_171_2, I_171_3, I_171_4, I_171_7, I_171_10, I_171_12, I_171_13, I_171_14, I_171_15, I_171_18, I_171_20, I_171_21, I_171_22, I_171_23, I_171_26, I_171_27, I_171_30, I_171_31, I_171_32, I_171_33, I_171_34, I_171_37, I_171_38, I_171_39, rr_0_0, rr_0_1, rr_0_2, rr_0_3, rr_0_4, rr_0_5, rr_0_6, rr_0_7, rr_0_8, rr_1_0, rr_1_1, rr_1_2, rr_1_3, rr_2_4, rr_2_5, rr_2_6, rr_2_7, rr_2_8, rr_13_0, rr_15_4, rr_15_5, rr_15_6, rr_15_7, rr_15_8, rr_21_4, rr_21_5, rr_21_6, rr_21_7, rr_21_8, rr_27_4, rr_27_5, rr_27_6, rr_27_7, rr_27_8, rr_33_4, rr_33_5, rr_33_6, rr_33_7, rr_33_8, rr_39_4, rr_39_5, rr_39_6, rr_39_7, rr_39_8, rr_45_4, rr_45_5, rr_45_6, rr_45_7, rr_45_8, rr_51_4, rr_51_5, rr_51_6, rr_51_7, rr_51_8, rr_57_4, rr_57_5, rr_57_6, rr_57_7, rr_57_8, rr_63_2, rr_63_3, rr_63_4, rr_63_5, rr_68_0, rr_70_1, rr_70_2, rr_74_4, rr_74_5, rr_74_6, rr_74_7, rr_74_8, rr_80_4, rr_80_5, rr_80_6, rr_80_7, rr_80_8, rr_86_2, rr_88_2, rr_90_2, rr_92_0, rr_92_1, rr_92_5, rr_92_6, rr_92_8, rr_92_9, rr_92_12, rr_92_15, rr_92_16, rr_92_17, m_in, i2l_toInt, l0, l1, inq_dec, inq01, h, b2n_t, nz1, not_false_eq_true, ↓reduceIte, pk_mul, nI_add, m_copyRow E (a := 0) (b := 522 + 58 * t) (by omega) (by omega) (by omega), Option.toList_some, List.cons_append, List.nil_append, Option.toList_none, e0]
    refine hk _ (fun a ha => ?_) (fun k a b => by rw [u2_f b, cpR_k a]) (fun j hj => by rw [u2_k (by omega), cpR_i (by omega)])
    by_cases e : a = t
    · subst e
      refine ⟨by rw [u2_s, bU_s]; rfl, fun _ => ?_⟩
      rw [zU_s]
      exact ⟨MD_mv hW hM (fun j hj => by rw [u2_k (by omega), cpR_s hj]), hW⟩
    · obtain ⟨z1, z2⟩ := hK a ha
      refine ⟨by rw [u2_i e, cpR_k (by omega), bU_n e]; exact z1, fun z => ?_⟩
      rw [bU_n e] at z
      rw [zU_n e]
      exact ⟨MD_fr (z2 z).2 (z2 z).1 (fun j c d => by rw [u2_k (by omega), cpR_i (by omega)]), (z2 z).2⟩
  · simp only [keepR, keepB, keepK, h, ↓reduceIte] at hk
    have hb : inr x 2 = false := by simpa using h
    simp (disch := first | assumption | exact bz0 | exact bz1 | exact bzi | omega | decide +kernel) only [I_171_0, I_171_1, I_171_2, I_171_3, I_171_4, I_171_7, I_171_10, I_171_12, I_171_13, I_171_14, I_171_15, I_171_18, I_171_20, I_171_21, I_171_22, I_171_23, I_171_26, I_171_27, I_171_30, I_171_31, I_171_32, I_171_33, I_171_34, I_171_37, I_171_38, I_171_39, m_in, i2l_toInt, l0, l1, inq_dec, inq01, hb, b2n_f, ip_nI0, not_true_eq_false, Bool.false_eq_true, ↓reduceIte, Option.toList_some, List.cons_append, List.nil_append]
    exact hk σ hK (fun _ _ _ => rfl) (fun _ _ => rfl)
def backR (kb : Nat → Bool) (K : Nat → Nat → Nat) (x : Int32) : Int32 := if inr x 2 = true then (if kb (tn x) = true then nI (K (tn x) 0) else -4) else -2
def backD (kb : Nat → Bool) (K : Nat → Nat → Nat) (D : Nat → Nat) (x : Int32) : Nat → Nat := if inr x 2 = true ∧ kb (tn x) = true then K (tn x) else D
def backN (kb : Nat → Bool) (n : Nat) (x : Int32) : Nat := if inr x 2 = true ∧ kb (tn x) = true then 0 else n
theorem m_back (E : ip_E) {σ : ip_G} {kb : Nat → Bool} {K : Nat → Nat → Nat} {D : Nat → Nat} {n : Nat} {P : Nat → Nat → Nat} (x : Int32) (hK : MK σ kb K) (hP : MP σ n P) (hM : MD σ 0 D) (hW : WD D) (κ : Option Value → ip_G → Prop) (hk : ∀ σ', MD σ' 0 (backD kb K D x) → MP σ' (backN kb n x) P → frM σ σ' → κ (some (.int (backR kb K x))) σ') : wp E 172 0 [.ref 92, .int x] [] σ κ := by
  by_cases h : inr x 2 = true
  · obtain ⟨t, ht, rfl⟩ := inr_t h
    have ht2 := tn_nI (show t < 2147483648 by omega)
    obtain ⟨z1, z2⟩ := hK t ht
    cases hb : kb t with
    | true =>
      simp only [backR, backD, backN, h, ht2, hb, and_self, ↓reduceIte] at hk
      obtain ⟨z3, z4⟩ := z2 hb
      rw [hb] at z1
      have e0 : (ip_u2 (cpR σ (522 + 58 * t) 0 58) 92 4 (nI 0)) 93 0 = nI (K t 0) := by
        have := cpR_s (σ := σ) (a := 522 + 58 * t) (b := 0) (n := 58) (i := 0) (by omega)
        rw [u2_k (by omega), this]
        exact z3.1 0 (by omega)
      simp (disch := first | assumption | exact bz0 | exact bz1 | exact bzi | omega | decide +kernel) only [I_172_0, I_172_1, I_172_2, I_172_3, I_172_4, I_172_7, I_172_10, I_172_12, I_172_13, I_172_14, I_172_17, I_172_18, I_172_19, I_172_22, I_172_24, I_172_25, I_172_26, I_172_29, I_172_31, I_172_32, I_172_33, I_172_34, I_172_35, I_172_38, I_172_39, I_172_40, I_172_43, I_172_44, I_172_47, I_172_48, I_172_49, rr_0_0, rr_0_1, rr_0_2, rr_0_3, rr_0_4, rr_0_5, rr_0_6, rr_0_7, rr_0_8, rr_1_0, rr_1_1, rr_1_2, rr_1_3, rr_2_4, rr_2_5, rr_2_6, rr_2_7, rr_2_8, rr_13_0, rr_15_4, rr_15_5, rr_15_6, rr_15_7, rr_15_8, rr_21_4, rr_21_5, rr_21_6, rr_21_7, rr_21_8, rr_27_4, rr_27_5, rr_27_6, rr_27_7, rr_27_8, rr_33_4, rr_33_5, rr_33_6, rr_33_7, rr_33_8, rr_39_4, rr_39_5, rr_39_6, rr_39_7, rr_39_8, rr_45_4, rr_45_5, rr_45_6, rr_45_7, rr_45_8, rr_51_4, rr_51_5, rr_51_6, rr_51_7, rr_51_8, rr_57_4, rr_57_5, rr_57_6, rr_57_7, rr_57_8, rr_63_2, rr_63_3, rr_63_4, rr_63_5, rr_68_0, rr_70_1, rr_70_2, rr_74_4, rr_74_5, rr_74_6, rr_74_7, rr_74_8, rr_80_4, rr_80_5, rr_80_6, rr_80_7, rr_80_8, rr_86_2, rr_88_2, rr_90_2, rr_92_0, rr_92_1, rr_92_5, rr_92_6, rr_92_8, rr_92_9, rr_92_12, rr_92_15, rr_92_16, rr_92_17, m_in, i2l_toInt, l0, l1, inq_dec, inq01, h, b2n_t, nz1, not_false_eq_true, ↓reduceIte, z1, pk_mul, nI_add, m_copyRow E (a := 522 + 58 * t) (b := 0) (by omega) (by omega) (by omega), Option.toList_some, List.cons_append, List.nil_append, Option.toList_none, e0]
      refine hk _ (MD_mv z4 z3 (fun j hj => by rw [u2_k (by omega), cpR_s hj])) ⟨by omega, by rw [u2_s], fun i hi => absurd hi (by omega), fun i hi => absurd hi (by omega)⟩ ⟨fun k a b => by rw [u2_f a, cpR_k b], fun j hj => by rw [u2_i hj, cpR_k (by omega)], fun j hj => by rw [u2_k (by omega), cpR_i (by omega)]⟩
    | false =>
      simp only [backR, backD, backN, h, ht2, hb, and_false, Bool.false_eq_true, ↓reduceIte] at hk
      rw [hb] at z1
      simp (disch := first | assumption | exact bz0 | exact bz1 | exact bzi | omega | decide +kernel) only [I_172_0, I_172_1, I_172_2, I_172_3, I_172_4, I_172_7, I_172_10, I_172_12, I_172_13, I_172_14, I_172_17, I_172_18, I_172_19, I_172_22, I_172_24, I_172_25, I_172_26, I_172_29, I_172_31, I_172_32, I_172_33, I_172_34, I_172_35, I_172_38, I_172_39, I_172_40, I_172_43, I_172_44, I_172_47, I_172_48, I_172_49, rr_0_0, rr_0_1, rr_0_2, rr_0_3, rr_0_4, rr_0_5, rr_0_6, rr_0_7, rr_0_8, rr_1_0, rr_1_1, rr_1_2, rr_1_3, rr_2_4, rr_2_5, rr_2_6, rr_2_7, rr_2_8, rr_13_0, rr_15_4, rr_15_5, rr_15_6, rr_15_7, rr_15_8, rr_21_4, rr_21_5, rr_21_6, rr_21_7, rr_21_8, rr_27_4, rr_27_5, rr_27_6, rr_27_7, rr_27_8, rr_33_4, rr_33_5, rr_33_6, rr_33_7, rr_33_8, rr_39_4, rr_39_5, rr_39_6, rr_39_7, rr_39_8, rr_45_4, rr_45_5, rr_45_6, rr_45_7, rr_45_8, rr_51_4, rr_51_5, rr_51_6, rr_51_7, rr_51_8, rr_57_4, rr_57_5, rr_57_6, rr_57_7, rr_57_8, rr_63_2, rr_63_3, rr_63_4, rr_63_5, rr_68_0, rr_70_1, rr_70_2, rr_74_4, rr_74_5, rr_74_6, rr_74_7, rr_74_8, rr_80_4, rr_80_5, rr_80_6, rr_80_7, rr_80_8, rr_86_2, rr_88_2, rr_90_2, rr_92_0, rr_92_1, rr_92_5, rr_92_6, rr_92_8, rr_92_9, rr_92_12, rr_92_15, rr_92_16, rr_92_17, m_in, i2l_toInt, l0, l1, inq_dec, inq01, h, b2n_t, nz1, not_false_eq_true, not_true_eq_false, ↓reduceIte, z1, nb0, Option.toList_some, List.cons_append, List.nil_append]
      exact hk σ hM hP ⟨fun _ _ _ => rfl, fun _ _ => rfl, fun _ _ => rfl⟩
  · simp only [backR, backD, backN, h, false_and, Bool.false_eq_true, ↓reduceIte] at hk
    have hb : inr x 2 = false := by simpa using h
    simp (disch := first | assumption | exact bz0 | exact bz1 | exact bzi | omega | decide +kernel) only [I_172_0, I_172_1, I_172_2, I_172_3, I_172_4, I_172_7, I_172_10, I_172_12, I_172_13, I_172_14, I_172_17, I_172_18, I_172_19, I_172_22, I_172_24, I_172_25, I_172_26, I_172_29, I_172_31, I_172_32, I_172_33, I_172_34, I_172_35, I_172_38, I_172_39, I_172_40, I_172_43, I_172_44, I_172_47, I_172_48, I_172_49, m_in, i2l_toInt, l0, l1, inq_dec, inq01, hb, b2n_f, ip_nI0, not_true_eq_false, Bool.false_eq_true, ↓reduceIte, Option.toList_some, List.cons_append, List.nil_append]
    exact hk σ hM hP ⟨fun _ _ _ => rfl, fun _ _ => rfl, fun _ _ => rfl⟩
theorem MD_sw {σ : ip_G} {D : Nat → Nat} {a b : Nat} (ha : a < 12) (hb : b < 12) (hM : MD σ 0 D) : MD (sw2 σ (4 + a) (4 + b)) 0 (swD D a b) := by
  obtain ⟨m1, m2, m3⟩ := MD0 hM
  have z : ∀ j, 16 ≤ j → swD D a b j = D j := fun j hj => by unfold swD; rw [if_neg (by omega), if_neg (by omega)]
  refine ⟨fun j hj => ?_, fun i hi => ?_, fun j h1 h2 => ?_⟩
  · rw [Nat.zero_add]
    unfold swD
    by_cases e1 : j = 4 + a
    · subst e1; rw [if_pos rfl, sw2_a]; exact m1 _ (by omega)
    · rw [if_neg e1]
      by_cases e2 : j = 4 + b
      · subst e2; rw [if_pos rfl, sw2_b]; exact m1 _ (by omega)
      · rw [if_neg e2, sw2_n e1 e2]; exact m1 j hj
  · have hi2 : i < D 3 := by
      have : swD D a b 3 = D 3 := by unfold swD; rw [if_neg (by omega), if_neg (by omega)]
      rw [this] at hi; exact hi
    rw [Nat.zero_add, z _ (by omega), sw2_n (by omega) (by omega)]; exact m2 i hi2
  · rw [Nat.zero_add, z _ (by omega), sw2_n (by omega) (by omega)]; exact m3 j h1 h2
theorem sw2_sw2 (σ : ip_G) (a b : Nat) : sw2 (sw2 σ a b) a b = σ := by
  funext k j
  by_cases hk : k = 93
  · subst hk
    by_cases e1 : j = a
    · subst e1; rw [sw2_a, sw2_b]
    · by_cases e2 : j = b
      · subst e2; rw [sw2_b, sw2_a]
      · rw [sw2_n e1 e2, sw2_n e1 e2]
  · rw [sw2_k hk, sw2_k hk]
def chgR (D : Nat → Nat) (x y : Int32) : Int32 := if inr x (D 0) = true ∧ inr y (D 0) = true ∧ ¬ tn x = tn y then nI (mx (flP (swD D (tn x) (tn y))) (D 1)) else -2
theorem m_changed (E : ip_E) {σ : ip_G} {D : Nat → Nat} (x y : Int32) (hM : MD σ 0 D) (hW : WD D) (κ : Option Value → ip_G → Prop) : wp E 178 0 [.ref 92, .int x, .int y, .retAddr 0] [] σ κ = κ (some (.int (chgR D x y))) σ := by
  have w := hW.1
  by_cases h : inr x (D 0) = true
  · obtain ⟨a, ha, rfl⟩ := inr_t h
    by_cases h2 : inr y (D 0) = true
    · obtain ⟨b, hb, rfl⟩ := inr_t h2
      have ha2 := tn_nI (show a < 2147483648 by omega)
      have hb2 := tn_nI (show b < 2147483648 by omega)
      by_cases hab : a = b
      · subst hab
        simp (disch := first | assumption | exact bz0 | exact bz1 | exact bzi | omega | decide +kernel) only [I_178_0, I_178_1, I_178_2, I_178_5, I_178_8, I_178_9, I_178_10, I_178_13, I_178_16, I_178_17, I_178_18, I_178_21, I_178_23, I_178_24, I_178_25, I_178_26, I_178_27, I_178_28, I_178_29, I_178_30, I_178_31, I_178_34, I_178_35, I_178_38, I_178_39, I_178_40, I_178_41, I_178_42, I_178_43, I_178_44, I_178_45, I_178_46, I_178_49, I_178_50, m_isEnd E hM hW, h, b2n_t, nz1, not_true_eq_false, ↓reduceIte, Option.toList_some, List.cons_append, List.nil_append, chgR, and_false]
      · have hne : ¬ nI a = nI b := fun z => hab ((nI_eq (by omega) (by omega)).mp z)
        have hs1 : swD D a b 1 = D 1 := by unfold swD; rw [if_neg (by omega), if_neg (by omega)]
        have L := fun κ => m_longestOfPicks E (MD_sw (a := a) (b := b) (by omega) (by omega) hM) (swD_W (by omega) (by omega) hW) κ
        rw [hs1] at L
        simp (disch := first | assumption | exact bz0 | exact bz1 | exact bzi | omega | decide +kernel) only [I_178_0, I_178_1, I_178_2, I_178_5, I_178_8, I_178_9, I_178_10, I_178_13, I_178_16, I_178_17, I_178_18, I_178_21, I_178_23, I_178_24, I_178_25, I_178_26, I_178_27, I_178_28, I_178_29, I_178_30, I_178_31, I_178_34, I_178_35, I_178_38, I_178_39, I_178_40, I_178_41, I_178_42, I_178_43, I_178_44, I_178_45, I_178_46, I_178_49, I_178_50, m_isEnd E hM hW, h, h2, b2n_t, nz1, hne, not_false_eq_true, ↓reduceIte, Option.toList_some, List.cons_append, List.nil_append, Option.toList_none, nI_add, m_swap E (show 4 + a < 638 by omega) (show 4 + b < 638 by omega), L, sw2_sw2, chgR, ha2, hb2, hab, and_self]
    · have hb : inr y (D 0) = false := by simpa using h2
      simp (disch := first | assumption | exact bz0 | exact bz1 | exact bzi | omega | decide +kernel) only [I_178_0, I_178_1, I_178_2, I_178_5, I_178_8, I_178_9, I_178_10, I_178_13, I_178_16, I_178_17, I_178_18, I_178_21, I_178_23, I_178_24, I_178_25, I_178_26, I_178_27, I_178_28, I_178_29, I_178_30, I_178_31, I_178_34, I_178_35, I_178_38, I_178_39, I_178_40, I_178_41, I_178_42, I_178_43, I_178_44, I_178_45, I_178_46, I_178_49, I_178_50, m_isEnd E hM hW, h, hb, b2n_t, b2n_f, ip_nI0, nz1, not_true_eq_false, ↓reduceIte, Option.toList_some, List.cons_append, List.nil_append, chgR, false_and, and_false, Bool.false_eq_true]
  · have hb : inr x (D 0) = false := by simpa using h
    simp (disch := first | assumption | exact bz0 | exact bz1 | exact bzi | omega | decide +kernel) only [I_178_0, I_178_1, I_178_2, I_178_5, I_178_8, I_178_9, I_178_10, I_178_13, I_178_16, I_178_17, I_178_18, I_178_21, I_178_23, I_178_24, I_178_25, I_178_26, I_178_27, I_178_28, I_178_29, I_178_30, I_178_31, I_178_34, I_178_35, I_178_38, I_178_39, I_178_40, I_178_41, I_178_42, I_178_43, I_178_44, I_178_45, I_178_46, I_178_49, I_178_50, m_isEnd E hM hW, hb, b2n_f, ip_nI0, not_true_eq_false, ↓reduceIte, Option.toList_some, List.cons_append, List.nil_append, chgR, false_and, Bool.false_eq_true]
