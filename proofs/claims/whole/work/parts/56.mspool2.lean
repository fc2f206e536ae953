/-! SPOOLS (reference): knotted, dropped, measured, rewound, counted -/
theorem m_knot (E : ip_E) {σ : ip_G} {Z : Nat → Nat → Nat} (x : Int32) (hM : MS σ Z) (hW : WZ Z) (κ : Option Value → ip_G → Prop) (hk : ∀ σ', MS σ' (knotZ Z x) → frMS σ σ' → κ (some (.int (knotR Z x))) σ') : wp E 185 0 [.ref 92, .int x, .retAddr 0, .retAddr 0] [] σ κ := by
  by_cases h : inr x 3 = true
  · obtain ⟨t, ht, rfl⟩ := inr_t h
    have ht2 := tn_nI (show t < 2147483648 by omega)
    obtain ⟨c0, c1⟩ := hM t ht
    have w := hW t ht
    have w1 := w.1
    by_cases hz : Z t 0 = 0
    · rw [if_pos hz] at c0
      have q1 : ¬ 3 ≤ Z t 0 := by omega
      have q2 : ¬ nI 2 ≤ (-1 : Int32) := by decide +kernel
      simp only [knotZ, knotR, h, ht2, q1, hz, and_false, ↓reduceIte] at hk
      simp (disch := first | assumption | exact bz0 | exact bz1 | exact bzi | omega | decide +kernel) only [I_185_0, I_185_1, I_185_4, I_185_7, I_185_9, I_185_10, I_185_11, I_185_14, I_185_15, I_185_16, I_185_17, I_185_20, I_185_21, I_185_24, I_185_25, I_185_26, I_185_29, I_185_31, I_185_34, I_185_35, I_185_38, I_185_39, I_185_40, I_185_43, I_185_45, I_185_48, I_185_50, I_185_51, I_185_52, I_185_55, I_185_56, I_185_57, I_185_58, I_185_59, I_185_60, I_185_61, I_185_63, I_185_64, I_185_65, I_185_66, I_185_69, I_185_70, I_185_71, I_185_72, I_185_73, I_185_74, I_185_75, I_185_76, I_185_79, I_185_80, I_185_81, I_185_82, I_185_85, I_185_86, I_185_87, I_185_88, I_185_89, I_185_90, I_185_91, I_185_92, I_185_95, I_185_96, I_185_97, I_185_99, I_185_102, I_185_104, I_185_107, I_185_108, I_185_109, I_185_110, I_185_113, I_185_114, I_185_115, rr_0_0, rr_0_1, rr_0_2, rr_0_3, rr_0_4, rr_0_5, rr_0_6, rr_0_7, rr_0_8, rr_1_0, rr_1_1, rr_1_2, rr_1_3, rr_2_4, rr_2_5, rr_2_6, rr_2_7, rr_2_8, rr_13_0, rr_15_4, rr_15_5, rr_15_6, rr_15_7, rr_15_8, rr_21_4, rr_21_5, rr_21_6, rr_21_7, rr_21_8, rr_27_4, rr_27_5, rr_27_6, rr_27_7, rr_27_8, rr_33_4, rr_33_5, rr_33_6, rr_33_7, rr_33_8, rr_39_4, rr_39_5, rr_39_6, rr_39_7, rr_39_8, rr_45_4, rr_45_5, rr_45_6, rr_45_7, rr_45_8, rr_51_4, rr_51_5, rr_51_6, rr_51_7, rr_51_8, rr_57_4, rr_57_5, rr_57_6, rr_57_7, rr_57_8, rr_63_2, rr_63_3, rr_63_4, rr_63_5, rr_68_0, rr_70_1, rr_70_2, rr_74_4, rr_74_5, rr_74_6, rr_74_7, rr_74_8, rr_80_4, rr_80_5, rr_80_6, rr_80_7, rr_80_8, rr_86_2, rr_88_2, rr_90_2, rr_92_0, rr_92_1, rr_92_5, rr_92_6, rr_92_8, rr_92_9, rr_92_12, rr_92_15, rr_92_16, rr_92_17, m_isSpool, h, b2n, nz1, not_false_eq_true, c0, q2, neg1_lt, ↓reduceIte, Option.toList_some, List.cons_append, List.nil_append]
      exact hk σ hM (fun _ _ _ => rfl)
    · rw [if_neg hz] at c0
      have g0 := ge0n (Z t 0 - 1) (by omega)
      by_cases h1 : Z t 0 = 1
      · have q1 : ¬ 3 ≤ Z t 0 := by omega
        have e1 : nI (Z t 0 - 1) = 0 := by rw [h1]; exact nI_0
        have q2 : ¬ nI 2 ≤ (0 : Int32) := by decide +kernel
        have q3 : (0 : Int32) ≤ 0 := by decide
        rw [e1] at c0
        simp only [knotZ, knotR, h, ht2, q1, hz, h1, and_false, ↓reduceIte, Nat.reduceEqDiff] at hk
        simp (disch := first | assumption | exact bz0 | exact bz1 | exact bzi | omega | decide +kernel) only [I_185_0, I_185_1, I_185_4, I_185_7, I_185_9, I_185_10, I_185_11, I_185_14, I_185_15, I_185_16, I_185_17, I_185_20, I_185_21, I_185_24, I_185_25, I_185_26, I_185_29, I_185_31, I_185_34, I_185_35, I_185_38, I_185_39, I_185_40, I_185_43, I_185_45, I_185_48, I_185_50, I_185_51, I_185_52, I_185_55, I_185_56, I_185_57, I_185_58, I_185_59, I_185_60, I_185_61, I_185_63, I_185_64, I_185_65, I_185_66, I_185_69, I_185_70, I_185_71, I_185_72, I_185_73, I_185_74, I_185_75, I_185_76, I_185_79, I_185_80, I_185_81, I_185_82, I_185_85, I_185_86, I_185_87, I_185_88, I_185_89, I_185_90, I_185_91, I_185_92, I_185_95, I_185_96, I_185_97, I_185_99, I_185_102, I_185_104, I_185_107, I_185_108, I_185_109, I_185_110, I_185_113, I_185_114, I_185_115, rr_0_0, rr_0_1, rr_0_2, rr_0_3, rr_0_4, rr_0_5, rr_0_6, rr_0_7, rr_0_8, rr_1_0, rr_1_1, rr_1_2, rr_1_3, rr_2_4, rr_2_5, rr_2_6, rr_2_7, rr_2_8, rr_13_0, rr_15_4, rr_15_5, rr_15_6, rr_15_7, rr_15_8, rr_21_4, rr_21_5, rr_21_6, rr_21_7, rr_21_8, rr_27_4, rr_27_5, rr_27_6, rr_27_7, rr_27_8, rr_33_4, rr_33_5, rr_33_6, rr_33_7, rr_33_8, rr_39_4, rr_39_5, rr_39_6, rr_39_7, rr_39_8, rr_45_4, rr_45_5, rr_45_6, rr_45_7, rr_45_8, rr_51_4, rr_51_5, rr_51_6, rr_51_7, rr_51_8, rr_57_4, rr_57_5, rr_57_6, rr_57_7, rr_57_8, rr_63_2, rr_63_3, rr_63_4, rr_63_5, rr_68_0, rr_70_1, rr_70_2, rr_74_4, rr_74_5, rr_74_6, rr_74_7, rr_74_8, rr_80_4, rr_80_5, rr_80_6, rr_80_7, rr_80_8, rr_86_2, rr_88_2, rr_90_2, rr_92_0, rr_92_1, rr_92_5, rr_92_6, rr_92_8, rr_92_9, rr_92_12, rr_92_15, rr_92_16, rr_92_17, m_isSpool, h, b2n, nz1, not_false_eq_true, not_true_eq_false, c0, q2, q3, ↓reduceIte, Option.toList_some, List.cons_append, List.nil_append]
        exact hk σ hM (fun _ _ _ => rfl)
      · by_cases h2 : Z t 0 = 2
        · have q1 : ¬ 3 ≤ Z t 0 := by omega
          have e2 : nI (Z t 0 - 1) = nI 1 := by rw [h2]
          have q2 : ¬ nI 2 ≤ nI 1 := by decide +kernel
          rw [e2] at c0 g0
          simp only [knotZ, knotR, h, ht2, q1, hz, h1, h2, and_false, ↓reduceIte, Nat.reduceEqDiff] at hk
          simp (disch := first | assumption | exact bz0 | exact bz1 | exact bzi | omega | decide +kernel) only [I_185_0, I_185_1, I_185_4, I_185_7, I_185_9, I_185_10, I_185_11, I_185_14, I_185_15, I_185_16, I_185_17, I_185_20, I_185_21, I_185_24, I_185_25, I_185_26, I_185_29, I_185_31, I_185_34, I_185_35, I_185_38, I_185_39, I_185_40, I_185_43, I_185_45, I_185_48, I_185_50, I_185_51, I_185_52, I_185_55, I_185_56, I_185_57, I_185_58, I_185_59, I_185_60, I_185_61, I_185_63, I_185_64, I_185_65, I_185_66, I_185_69, I_185_70, I_185_71, I_185_72, I_185_73, I_185_74, I_185_75, I_185_76, I_185_79, I_185_80, I_185_81, I_185_82, I_185_85, I_185_86, I_185_87, I_185_88, I_185_89, I_185_90, I_185_91, I_185_92, I_185_95, I_185_96, I_185_97, I_185_99, I_185_102, I_185_104, I_185_107, I_185_108, I_185_109, I_185_110, I_185_113, I_185_114, I_185_115, rr_0_0, rr_0_1, rr_0_2, rr_0_3, rr_0_4, rr_0_5, rr_0_6, rr_0_7, rr_0_8, rr_1_0, rr_1_1, rr_1_2, rr_1_3, rr_2_4, rr_2_5, rr_2_6, rr_2_7, rr_2_8, rr_13_0, rr_15_4, rr_15_5, rr_15_6, rr_15_7, rr_15_8, rr_21_4, rr_21_5, rr_21_6, rr_21_7, rr_21_8, rr_27_4, rr_27_5, rr_27_6, rr_27_7, rr_27_8, rr_33_4, rr_33_5, rr_33_6, rr_33_7, rr_33_8, rr_39_4, rr_39_5, rr_39_6, rr_39_7, rr_39_8, rr_45_4, rr_45_5, rr_45_6, rr_45_7, rr_45_8, rr_51_4, rr_51_5, rr_51_6, rr_51_7, rr_51_8, rr_57_4, rr_57_5, rr_57_6, rr_57_7, rr_57_8, rr_63_2, rr_63_3, rr_63_4, rr_63_5, rr_68_0, rr_70_1, rr_70_2, rr_74_4, rr_74_5, rr_74_6, rr_74_7, rr_74_8, rr_80_4, rr_80_5, rr_80_6, rr_80_7, rr_80_8, rr_86_2, rr_88_2, rr_90_2, rr_92_0, rr_92_1, rr_92_5, rr_92_6, rr_92_8, rr_92_9, rr_92_12, rr_92_15, rr_92_16, rr_92_17, m_isSpool, h, b2n, nz1, not_false_eq_true, c0, q2, g0, ↓reduceIte, Option.toList_some, List.cons_append, List.nil_append]
          exact hk σ hM (fun _ _ _ => rfl)
        · have q1 : 3 ≤ Z t 0 := by omega
          have q2 : nI 2 ≤ nI (Z t 0 - 1) := nI_le (by omega) (by omega)
          simp only [knotZ, knotR, h, ht2, q1, hz, h1, h2, and_self, ↓reduceIte] at hk
          have e1 := c1 (Z t 0 - 1 - 1) (by omega)
          have e2 := c1 (Z t 0 - 1 - 2) (by omega)
          have b1 := w.2 (Z t 0 - 1 - 1) (by omega)
          have b2 := w.2 (Z t 0 - 1 - 2) (by omega)
          rw [show 1 + (Z t 0 - 1 - 1) = Z t 0 - 1 by omega] at e1 b1
          rw [show 1 + (Z t 0 - 1 - 2) = Z t 0 - 2 by omega] at e2 b2
          have i1 : 8 * t + (Z t 0 - 1 - 1) - 1 = 8 * t + (Z t 0 - 1 - 2) := by omega
          have i2 : 8 * t + (Z t 0 - 1 - 2) + 1 = 8 * t + (Z t 0 - 1 - 1) := by omega
          have hm : (if nI (Z t (Z t 0 - 2) + Z t (Z t 0 - 1)) ≤ nI 99 then nI (Z t (Z t 0 - 2) + Z t (Z t 0 - 1)) else nI 99) = nI (min (Z t (Z t 0 - 1) + Z t (Z t 0 - 2)) 99) := by
            by_cases hh : Z t (Z t 0 - 2) + Z t (Z t 0 - 1) ≤ 99
            · rw [if_pos (nI_le hh (by omega)), Nat.min_eq_left (by omega), Nat.add_comm]
            · rw [if_neg (nI_ge (by omega) (by omega)), Nat.min_eq_right (by omega)]
          have fin : ∀ σ2, σ2 = ip_u2 (ip_u2 σ 97 t (nI (Z t 0 - 1 - 1))) 98 (8 * t + (Z t 0 - 1 - 2)) (nI (min (Z t (Z t 0 - 1) + Z t (Z t 0 - 2)) 99)) → κ (some (.int (nI (min (Z t (Z t 0 - 1) + Z t (Z t 0 - 2)) 99)))) σ2 := by
            intro σ2 e
            subst e
            refine hk _ (MS_U hW ht hM ⟨?_, fun i hi => ?_⟩ (fun a ha => by rw [u2_k (by omega), u2_i ha]) (fun a i ha1 ha2 hi => by rw [u2_i (by omega), u2_k (by omega)])) (fun k a b => by rw [u2_f b, u2_f a])
            · have z2 : ¬ spJ (Z t) 0 = 0 := by simp [spJ]; omega
              have z3 : spJ (Z t) 0 - 1 = Z t 0 - 1 - 1 := by simp [spJ]
              rw [u2_k (by omega), u2_s, if_neg z2, z3]
            · have hi2 : i + 1 < Z t 0 - 1 := by simpa [spJ] using hi
              by_cases e : i = Z t 0 - 1 - 2
              · subst e
                have : spJ (Z t) (1 + (Z t 0 - 1 - 2)) = min (Z t (Z t 0 - 1) + Z t (Z t 0 - 2)) 99 := by rw [show 1 + (Z t 0 - 1 - 2) = Z t 0 - 2 by omega]; simp [spJ]; omega
                rw [u2_s, this]
              · have : spJ (Z t) (1 + i) = Z t (1 + i) := by simp [spJ]; omega
                rw [u2_i (by omega), u2_k (by omega), c1 i (by omega), this]
          by_cases hh : Z t (Z t 0 - 2) + Z t (Z t 0 - 1) ≤ 99
          · have hc : nI (Z t (Z t 0 - 2) + Z t (Z t 0 - 1)) ≤ nI 99 := nI_le hh (by omega)
            rw [if_pos hc] at hm
            simp (disch := first | assumption | exact bz0 | exact bz1 | exact bzi | omega | decide +kernel) only [I_185_0, I_185_1, I_185_4, I_185_7, I_185_9, I_185_10, I_185_11, I_185_14, I_185_15, I_185_16, I_185_17, I_185_20, I_185_21, I_185_24, I_185_25, I_185_26, I_185_29, I_185_31, I_185_34, I_185_35, I_185_38, I_185_39, I_185_40, I_185_43, I_185_45, I_185_48, I_185_50, I_185_51, I_185_52, I_185_55, I_185_56, I_185_57, I_185_58, I_185_59, I_185_60, I_185_61, I_185_63, I_185_64, I_185_65, I_185_66, I_185_69, I_185_70, I_185_71, I_185_72, I_185_73, I_185_74, I_185_75, I_185_76, I_185_79, I_185_80, I_185_81, I_185_82, I_185_85, I_185_86, I_185_87, I_185_88, I_185_89, I_185_90, I_185_91, I_185_92, I_185_95, I_185_96, I_185_97, I_185_99, I_185_102, I_185_104, I_185_107, I_185_108, I_185_109, I_185_110, I_185_113, I_185_114, I_185_115, rr_0_0, rr_0_1, rr_0_2, rr_0_3, rr_0_4, rr_0_5, rr_0_6, rr_0_7, rr_0_8, rr_1_0, rr_1_1, rr_1_2, rr_1_3, rr_2_4, rr_2_5, rr_2_6, rr_2_7, rr_2_8, rr_13_0, rr_15_4, rr_15_5, rr_15_6, rr_15_7, rr_15_8, rr_21_4, rr_21_5, rr_21_6, rr_21_7, rr_21_8, rr_27_4, rr_27_5, rr_27_6, rr_27_7, rr_27_8, rr_33_4, rr_33_5, rr_33_6, rr_33_7, rr_33_8, rr_39_4, rr_39_5, rr_39_6, rr_39_7, rr_39_8, rr_45_4, rr_45_5, rr_45_6, rr_45_7, rr_45_8, rr_51_4, rr_51_5, rr_51_6, rr_51_7, rr_51_8, rr_57_4, rr_57_5, rr_57_6, rr_57_7, rr_57_8, rr_63_2, rr_63_3, rr_63_4, rr_63_5, rr_68_0, rr_70_1, rr_70_2, rr_74_4, rr_74_5, rr_74_6, rr_74_7, rr_74_8, rr_80_4, rr_80_5, rr_80_6, rr_80_7, rr_80_8, rr_86_2, rr_88_2, rr_90_2, rr_92_0, rr_92_1, rr_92_5, rr_92_6, rr_92_8, rr_92_9, rr_92_12, rr_92_15, rr_92_16, rr_92_17, m_isSpool, h, b2n, nz1, not_false_eq_true, c0, q2, ↓reduceIte, Option.toList_some, List.cons_append, List.nil_append, pk_mul, nI_add, u2_s, u2_k, pk_sub (show 1 ≤ Z t 0 - 1 by omega), pk_sub (show 1 ≤ 8 * t + (Z t 0 - 1 - 1) by omega), i1, i2, e1, e2, hc]
            rw [hm]
            exact fin _ rfl
          · have hc : ¬ nI (Z t (Z t 0 - 2) + Z t (Z t 0 - 1)) ≤ nI 99 := nI_ge (by omega) (by omega)
            rw [if_neg hc] at hm
            simp (disch := first | assumption | exact bz0 | exact bz1 | exact bzi | omega | decide +kernel) only [I_185_0, I_185_1, I_185_4, I_185_7, I_185_9, I_185_10, I_185_11, I_185_14, I_185_15, I_185_16, I_185_17, I_185_20, I_185_21, I_185_24, I_185_25, I_185_26, I_185_29, I_185_31, I_185_34, I_185_35, I_185_38, I_185_39, I_185_40, I_185_43, I_185_45, I_185_48, I_185_50, I_185_51, I_185_52, I_185_55, I_185_56, I_185_57, I_185_58, I_185_59, I_185_60, I_185_61, I_185_63, I_185_64, I_185_65, I_185_66, I_185_69, I_185_70, I_185_71, I_185_72, I_185_73, I_185_74, I_185_75, I_185_76, I_185_79, I_185_80, I_185_81, I_185_82, I_185_85, I_185_86, I_185_87, I_185_88, I_185_89, I_185_90, I_185_91, I_185_92, I_185_95, I_185_96, I_185_97, I_185_99, I_185_102, I_185_104, I_185_107, I_185_108, I_185_109, I_185_110, I_185_113, I_185_114, I_185_115, rr_0_0, rr_0_1, rr_0_2, rr_0_3, rr_0_4, rr_0_5, rr_0_6, rr_0_7, rr_0_8, rr_1_0, rr_1_1, rr_1_2, rr_1_3, rr_2_4, rr_2_5, rr_2_6, rr_2_7, rr_2_8, rr_13_0, rr_15_4, rr_15_5, rr_15_6, rr_15_7, rr_15_8, rr_21_4, rr_21_5, rr_21_6, rr_21_7, rr_21_8, rr_27_4, rr_27_5, rr_27_6, rr_27_7, rr_27_8, rr_33_4, rr_33_5, rr_33_6, rr_33_7, rr_33_8, rr_39_4, rr_39_5, rr_39_6, rr_39_7, rr_39_8, rr_45_4, rr_45_5, rr_45_6, rr_45_7, rr_45_8, rr_51_4, rr_51_5, rr_51_6, rr_51_7, rr_51_8, rr_57_4, rr_57_5, rr_57_6, rr_57_7, rr_57_8, rr_63_2, rr_63_3, rr_63_4, rr_63_5, rr_68_0, rr_70_1, rr_70_2, rr_74_4, rr_74_5, rr_74_6, rr_74_7, rr_74_8, rr_80_4, rr_80_5, rr_80_6, rr_80_7, rr_80_8, rr_86_2, rr_88_2, rr_90_2, rr_92_0, rr_92_1, rr_92_5, rr_92_6, rr_92_8, rr_92_9, rr_92_12, rr_92_15, rr_92_16, rr_92_17, m_isSpool, h, b2n, nz1, not_false_eq_true, c0, q2, ↓reduceIte, Option.toList_some, List.cons_append, List.nil_append, pk_mul, nI_add, u2_s, u2_k, pk_sub (show 1 ≤ Z t 0 - 1 by omega), pk_sub (show 1 ≤ 8 * t + (Z t 0 - 1 - 1) by omega), i1, i2, e1, e2, hc]
            rw [hm]
            exact fin _ rfl
  · simp only [knotZ, knotR, h, ↓reduceIte, false_and, Bool.false_eq_true] at hk
    have hb : inr x 3 = false := by simpa using h
    simp (disch := first | assumption | exact bz0 | exact bz1 | exact bzi | omega | decide +kernel) only [I_185_0, I_185_1, I_185_4, I_185_7, I_185_9, I_185_10, I_185_11, I_185_14, I_185_15, I_185_16, I_185_17, I_185_20, I_185_21, I_185_24, I_185_25, I_185_26, I_185_29, I_185_31, I_185_34, I_185_35, I_185_38, I_185_39, I_185_40, I_185_43, I_185_45, I_185_48, I_185_50, I_185_51, I_185_52, I_185_55, I_185_56, I_185_57, I_185_58, I_185_59, I_185_60, I_185_61, I_185_63, I_185_64, I_185_65, I_185_66, I_185_69, I_185_70, I_185_71, I_185_72, I_185_73, I_185_74, I_185_75, I_185_76, I_185_79, I_185_80, I_185_81, I_185_82, I_185_85, I_185_86, I_185_87, I_185_88, I_185_89, I_185_90, I_185_91, I_185_92, I_185_95, I_185_96, I_185_97, I_185_99, I_185_102, I_185_104, I_185_107, I_185_108, I_185_109, I_185_110, I_185_113, I_185_114, I_185_115, m_isSpool, hb, b2n, ip_nI0, not_true_eq_false, Bool.false_eq_true, ↓reduceIte, Option.toList_some, List.cons_append, List.nil_append]
    exact hk σ hM (fun _ _ _ => rfl)
theorem m_drop (E : ip_E) {σ : ip_G} {Z : Nat → Nat → Nat} (x : Int32) (hM : MS σ Z) (hW : WZ Z) (κ : Option Value → ip_G → Prop) (hk : ∀ σ', MS σ' (dropZ Z x) → frMS σ σ' → κ (some (.int (dropR Z x))) σ') : wp E 188 0 [.ref 92, .int x, .retAddr 0] [] σ κ := by
  by_cases h : inr x 3 = true
  · obtain ⟨t, ht, rfl⟩ := inr_t h
    have ht2 := tn_nI (show t < 2147483648 by omega)
    obtain ⟨c0, c1⟩ := hM t ht
    have w := hW t ht
    have w1 := w.1
    by_cases hz : Z t 0 = 0
    · rw [if_pos hz] at c0
      simp only [dropZ, dropR, h, ht2, hz, not_true_eq_false, and_false, ↓reduceIte] at hk
      simp (disch := first | assumption | exact bz0 | exact bz1 | exact bzi | omega | decide +kernel) only [I_188_0, I_188_1, I_188_4, I_188_7, I_188_9, I_188_10, I_188_11, I_188_14, I_188_15, I_188_16, I_188_17, I_188_18, I_188_21, I_188_22, I_188_23, I_188_24, I_188_25, I_188_28, I_188_30, I_188_33, I_188_34, rr_0_0, rr_0_1, rr_0_2, rr_0_3, rr_0_4, rr_0_5, rr_0_6, rr_0_7, rr_0_8, rr_1_0, rr_1_1, rr_1_2, rr_1_3, rr_2_4, rr_2_5, rr_2_6, rr_2_7, rr_2_8, rr_13_0, rr_15_4, rr_15_5, rr_15_6, rr_15_7, rr_15_8, rr_21_4, rr_21_5, rr_21_6, rr_21_7, rr_21_8, rr_27_4, rr_27_5, rr_27_6, rr_27_7, rr_27_8, rr_33_4, rr_33_5, rr_33_6, rr_33_7, rr_33_8, rr_39_4, rr_39_5, rr_39_6, rr_39_7, rr_39_8, rr_45_4, rr_45_5, rr_45_6, rr_45_7, rr_45_8, rr_51_4, rr_51_5, rr_51_6, rr_51_7, rr_51_8, rr_57_4, rr_57_5, rr_57_6, rr_57_7, rr_57_8, rr_63_2, rr_63_3, rr_63_4, rr_63_5, rr_68_0, rr_70_1, rr_70_2, rr_74_4, rr_74_5, rr_74_6, rr_74_7, rr_74_8, rr_80_4, rr_80_5, rr_80_6, rr_80_7, rr_80_8, rr_86_2, rr_88_2, rr_90_2, rr_92_0, rr_92_1, rr_92_5, rr_92_6, rr_92_8, rr_92_9, rr_92_12, rr_92_15, rr_92_16, rr_92_17, m_isSpool, h, b2n, nz1, not_false_eq_true, c0, neg1_lt, ↓reduceIte, Option.toList_some, List.cons_append, List.nil_append]
      have e : ip_u2 σ 97 t (-1) = σ := by
        funext a b
        unfold ip_u2
        split
        · next hh => rw [hh.1, hh.2, c0]
        · rfl
      rw [e]
      exact hk σ hM (fun _ _ _ => rfl)
    · rw [if_neg hz] at c0
      have g0 := ge0n (Z t 0 - 1) (by omega)
      simp only [dropZ, dropR, h, ht2, hz, not_false_eq_true, and_self, ↓reduceIte] at hk
      simp (disch := first | assumption | exact bz0 | exact bz1 | exact bzi | omega | decide +kernel) only [I_188_0, I_188_1, I_188_4, I_188_7, I_188_9, I_188_10, I_188_11, I_188_14, I_188_15, I_188_16, I_188_17, I_188_18, I_188_21, I_188_22, I_188_23, I_188_24, I_188_25, I_188_28, I_188_30, I_188_33, I_188_34, rr_0_0, rr_0_1, rr_0_2, rr_0_3, rr_0_4, rr_0_5, rr_0_6, rr_0_7, rr_0_8, rr_1_0, rr_1_1, rr_1_2, rr_1_3, rr_2_4, rr_2_5, rr_2_6, rr_2_7, rr_2_8, rr_13_0, rr_15_4, rr_15_5, rr_15_6, rr_15_7, rr_15_8, rr_21_4, rr_21_5, rr_21_6, rr_21_7, rr_21_8, rr_27_4, rr_27_5, rr_27_6, rr_27_7, rr_27_8, rr_33_4, rr_33_5, rr_33_6, rr_33_7, rr_33_8, rr_39_4, rr_39_5, rr_39_6, rr_39_7, rr_39_8, rr_45_4, rr_45_5, rr_45_6, rr_45_7, rr_45_8, rr_51_4, rr_51_5, rr_51_6, rr_51_7, rr_51_8, rr_57_4, rr_57_5, rr_57_6, rr_57_7, rr_57_8, rr_63_2, rr_63_3, rr_63_4, rr_63_5, rr_68_0, rr_70_1, rr_70_2, rr_74_4, rr_74_5, rr_74_6, rr_74_7, rr_74_8, rr_80_4, rr_80_5, rr_80_6, rr_80_7, rr_80_8, rr_86_2, rr_88_2, rr_90_2, rr_92_0, rr_92_1, rr_92_5, rr_92_6, rr_92_8, rr_92_9, rr_92_12, rr_92_15, rr_92_16, rr_92_17, m_isSpool, h, b2n, nz1, not_false_eq_true, c0, g0, ↓reduceIte, Option.toList_some, List.cons_append, List.nil_append]
      exact hk _ (MS_U hW ht hM ⟨by rw [u2_s]; simp [sp0], fun i hi => by simp [sp0] at hi⟩ (fun a ha => by rw [u2_i ha]) (fun a i _ _ _ => by rw [u2_k (by omega)])) (fun k a b => by rw [u2_f a])
  · simp only [dropZ, dropR, h, ↓reduceIte, false_and, Bool.false_eq_true] at hk
    have hb : inr x 3 = false := by simpa using h
    simp (disch := first | assumption | exact bz0 | exact bz1 | exact bzi | omega | decide +kernel) only [I_188_0, I_188_1, I_188_4, I_188_7, I_188_9, I_188_10, I_188_11, I_188_14, I_188_15, I_188_16, I_188_17, I_188_18, I_188_21, I_188_22, I_188_23, I_188_24, I_188_25, I_188_28, I_188_30, I_188_33, I_188_34, m_isSpool, hb, b2n, ip_nI0, not_true_eq_false, Bool.false_eq_true, ↓reduceIte, Option.toList_some, List.cons_append, List.nil_append]
    exact hk σ hM (fun _ _ _ => rfl)
theorem m_allThreads (E : ip_E) {σ : ip_G} {Z : Nat → Nat → Nat} (hM : MS σ Z) (hW : WZ Z) (κ : Option Value → ip_G → Prop) : wp E 198 0 [.ref 92, .retAddr 0, .retAddr 0] [] σ κ = κ (some (.int (nI ((Z 0 0 - 1) + (Z 1 0 - 1) + (Z 2 0 - 1))))) σ := by
  have a0 : ¬ nI 3 ≤ nI 0 := by decide +kernel
  have a1 : ¬ nI 3 ≤ nI 1 := by decide +kernel
  have a2 : ¬ nI 3 ≤ nI 2 := by decide +kernel
  have a3 : nI 3 ≤ nI 3 := by decide +kernel
  have key : ∀ (t : Nat), t < 3 → ∀ c : Nat, wp E 198 9 [.ref 92, .int (nI c), .int (nI t)] [] σ κ = wp E 198 4 [.ref 92, .int (nI (c + (Z t 0 - 1))), .int (nI (t + 1))] [] σ κ := by
    intro t ht c
    obtain ⟨c0, -⟩ := hM t ht
    have w1 := (hW t ht).1
    by_cases hz : Z t 0 = 0
    · rw [if_pos hz] at c0
      simp (disch := first | assumption | exact bz0 | exact bz1 | exact bzi | omega | decide +kernel) only [I_198_0, I_198_1, I_198_2, I_198_3, I_198_5, I_198_6, I_198_10, I_198_11, I_198_14, I_198_15, I_198_16, I_198_19, I_198_20, I_198_23, I_198_24, I_198_27, I_198_28, I_198_29, I_198_30, I_198_31, I_198_34, I_198_37, I_198_38, rr_0_0, rr_0_1, rr_0_2, rr_0_3, rr_0_4, rr_0_5, rr_0_6, rr_0_7, rr_0_8, rr_1_0, rr_1_1, rr_1_2, rr_1_3, rr_2_4, rr_2_5, rr_2_6, rr_2_7, rr_2_8, rr_13_0, rr_15_4, rr_15_5, rr_15_6, rr_15_7, rr_15_8, rr_21_4, rr_21_5, rr_21_6, rr_21_7, rr_21_8, rr_27_4, rr_27_5, rr_27_6, rr_27_7, rr_27_8, rr_33_4, rr_33_5, rr_33_6, rr_33_7, rr_33_8, rr_39_4, rr_39_5, rr_39_6, rr_39_7, rr_39_8, rr_45_4, rr_45_5, rr_45_6, rr_45_7, rr_45_8, rr_51_4, rr_51_5, rr_51_6, rr_51_7, rr_51_8, rr_57_4, rr_57_5, rr_57_6, rr_57_7, rr_57_8, rr_63_2, rr_63_3, rr_63_4, rr_63_5, rr_68_0, rr_70_1, rr_70_2, rr_74_4, rr_74_5, rr_74_6, rr_74_7, rr_74_8, rr_80_4, rr_80_5, rr_80_6, rr_80_7, rr_80_8, rr_86_2, rr_88_2, rr_90_2, rr_92_0, rr_92_1, rr_92_5, rr_92_6, rr_92_8, rr_92_9, rr_92_12, rr_92_15, rr_92_16, rr_92_17, I_198_9, c0, neg1_lt, ↓reduceIte, nI_add]
      rw [hz]
    · rw [if_neg hz] at c0
      have g0 := ge0n (Z t 0 - 1) (by omega)
      simp (disch := first | assumption | exact bz0 | exact bz1 | exact bzi | omega | decide +kernel) only [I_198_0, I_198_1, I_198_2, I_198_3, I_198_5, I_198_6, I_198_10, I_198_11, I_198_14, I_198_15, I_198_16, I_198_19, I_198_20, I_198_23, I_198_24, I_198_27, I_198_28, I_198_29, I_198_30, I_198_31, I_198_34, I_198_37, I_198_38, rr_0_0, rr_0_1, rr_0_2, rr_0_3, rr_0_4, rr_0_5, rr_0_6, rr_0_7, rr_0_8, rr_1_0, rr_1_1, rr_1_2, rr_1_3, rr_2_4, rr_2_5, rr_2_6, rr_2_7, rr_2_8, rr_13_0, rr_15_4, rr_15_5, rr_15_6, rr_15_7, rr_15_8, rr_21_4, rr_21_5, rr_21_6, rr_21_7, rr_21_8, rr_27_4, rr_27_5, rr_27_6, rr_27_7, rr_27_8, rr_33_4, rr_33_5, rr_33_6, rr_33_7, rr_33_8, rr_39_4, rr_39_5, rr_39_6, rr_39_7, rr_39_8, rr_45_4, rr_45_5, rr_45_6, rr_45_7, rr_45_8, rr_51_4, rr_51_5, rr_51_6, rr_51_7, rr_51_8, rr_57_4, rr_57_5, rr_57_6, rr_57_7, rr_57_8, rr_63_2, rr_63_3, rr_63_4, rr_63_5, rr_68_0, rr_70_1, rr_70_2, rr_74_4, rr_74_5, rr_74_6, rr_74_7, rr_74_8, rr_80_4, rr_80_5, rr_80_6, rr_80_7, rr_80_8, rr_86_2, rr_88_2, rr_90_2, rr_92_0, rr_92_1, rr_92_5, rr_92_6, rr_92_8, rr_92_9, rr_92_12, rr_92_15, rr_92_16, rr_92_17, I_198_9, c0, g0, ↓reduceIte, nI_add]
  have hd : ∀ (t c : Nat), t < 3 → wp E 198 4 [.ref 92, .int (nI c), .int (nI t)] [] σ κ = wp E 198 9 [.ref 92, .int (nI c), .int (nI t)] [] σ κ := by
    intro t c ht
    have a : ¬ nI 3 ≤ nI t := nI_ge ht (by omega)
    rw [I_198_4]
    simp (disch := first | assumption | exact bz0 | exact bz1 | exact bzi | omega | decide +kernel) only [I_198_0, I_198_1, I_198_2, I_198_3, I_198_5, I_198_6, I_198_10, I_198_11, I_198_14, I_198_15, I_198_16, I_198_19, I_198_20, I_198_23, I_198_24, I_198_27, I_198_28, I_198_29, I_198_30, I_198_31, I_198_34, I_198_37, I_198_38, a, ↓reduceIte]
  simp (disch := first | assumption | exact bz0 | exact bz1 | exact bzi | omega | decide +kernel) only [I_198_0, I_198_1, I_198_2, I_198_3, I_198_5, I_198_6, I_198_10, I_198_11, I_198_14, I_198_15, I_198_16, I_198_19, I_198_20, I_198_23, I_198_24, I_198_27, I_198_28, I_198_29, I_198_30, I_198_31, I_198_34, I_198_37, I_198_38]
  rw [hd 0 0 (by omega), key 0 (by omega), hd 1 _ (by omega), key 1 (by omega), hd 2 _ (by omega), key 2 (by omega)]
  simp (disch := first | assumption | exact bz0 | exact bz1 | exact bzi | omega | decide +kernel) only [I_198_0, I_198_1, I_198_2, I_198_3, I_198_4, I_198_5, I_198_6, I_198_9, I_198_10, I_198_11, I_198_14, I_198_15, I_198_16, I_198_19, I_198_20, I_198_23, I_198_24, I_198_27, I_198_28, I_198_29, I_198_30, I_198_31, I_198_34, I_198_37, I_198_38, a3, ↓reduceIte, Nat.zero_add]
theorem L_mrew (E : ip_E) {σ : ip_G} {a b : Nat} (ha : a < 3) (hb : b < 3) (hab : a ≠ b) {S : Nat → Nat} (hS : WS S) (κ : Option Value → ip_G → Prop) : ∀ (n : Nat) (U : Nat → Nat) (σ' : ip_G), n + 1 ≤ S 0 → σ' 97 a = nI n → (∀ i, i < n → σ' 98 (8 * a + i) = nI (S (1 + i))) → MS1 σ' b U → WS U → 1 ≤ U 0 → U 0 + n ≤ 9 → (∀ c, c ≠ a → c ≠ b → σ' 97 c = σ 97 c) → (∀ c i, c < 3 → c ≠ a → c ≠ b → i < 8 → σ' 98 (8 * c + i) = σ 98 (8 * c + i)) → frMS σ σ' → (∀ σ2, σ2 97 a = nI 0 → MS1 σ2 b (rwU S n U) → (∀ c, c ≠ a → c ≠ b → σ2 97 c = σ 97 c) → (∀ c i, c < 3 → c ≠ a → c ≠ b → i < 8 → σ2 98 (8 * c + i) = σ 98 (8 * c + i)) → frMS σ σ2 → κ (some (.int (nI (U 0 + n - 1)))) σ2) → wp E 187 64 [.ref 92, .int (nI a), .int (nI b)] [] σ' κ := by
  have w := hS.1
  intro n
  induction n with
  | zero =>
    intro U σ' hn e0 e1 hB hU h1 h9 f1 f2 f3 hk
    have z1 : nI 0 ≤ (0 : Int32) := by decide +kernel
    have e2 := hB.1
    rw [if_neg (by omega)] at e2
    simp (disch := first | assumption | exact bz0 | exact bz1 | exact bzi | omega | decide +kernel) only [I_187_0, I_187_1, I_187_4, I_187_7, I_187_8, I_187_11, I_187_14, I_187_15, I_187_16, I_187_19, I_187_21, I_187_22, I_187_23, I_187_26, I_187_27, I_187_28, I_187_31, I_187_32, I_187_35, I_187_36, I_187_37, I_187_40, I_187_42, I_187_43, I_187_44, I_187_47, I_187_48, I_187_49, I_187_50, I_187_53, I_187_54, I_187_55, I_187_56, I_187_58, I_187_61, I_187_63, I_187_64, I_187_65, I_187_68, I_187_69, I_187_70, I_187_73, I_187_74, I_187_77, I_187_78, I_187_79, I_187_80, I_187_81, I_187_82, I_187_83, I_187_84, I_187_87, I_187_89, I_187_90, I_187_91, I_187_92, I_187_95, I_187_96, I_187_97, I_187_98, I_187_99, I_187_102, I_187_104, I_187_105, I_187_106, I_187_107, I_187_110, I_187_111, I_187_112, I_187_113, I_187_114, I_187_115, I_187_116, I_187_119, I_187_120, I_187_121, I_187_122, I_187_123, I_187_124, I_187_125, I_187_128, I_187_129, I_187_132, I_187_133, I_187_134, rr_0_0, rr_0_1, rr_0_2, rr_0_3, rr_0_4, rr_0_5, rr_0_6, rr_0_7, rr_0_8, rr_1_0, rr_1_1, rr_1_2, rr_1_3, rr_2_4, rr_2_5, rr_2_6, rr_2_7, rr_2_8, rr_13_0, rr_15_4, rr_15_5, rr_15_6, rr_15_7, rr_15_8, rr_21_4, rr_21_5, rr_21_6, rr_21_7, rr_21_8, rr_27_4, rr_27_5, rr_27_6, rr_27_7, rr_27_8, rr_33_4, rr_33_5, rr_33_6, rr_33_7, rr_33_8, rr_39_4, rr_39_5, rr_39_6, rr_39_7, rr_39_8, rr_45_4, rr_45_5, rr_45_6, rr_45_7, rr_45_8, rr_51_4, rr_51_5, rr_51_6, rr_51_7, rr_51_8, rr_57_4, rr_57_5, rr_57_6, rr_57_7, rr_57_8, rr_63_2, rr_63_3, rr_63_4, rr_63_5, rr_68_0, rr_70_1, rr_70_2, rr_74_4, rr_74_5, rr_74_6, rr_74_7, rr_74_8, rr_80_4, rr_80_5, rr_80_6, rr_80_7, rr_80_8, rr_86_2, rr_88_2, rr_90_2, rr_92_0, rr_92_1, rr_92_5, rr_92_6, rr_92_8, rr_92_9, rr_92_12, rr_92_15, rr_92_16, rr_92_17, e0, z1, ↓reduceIte, e2]
    exact hk σ' e0 hB f1 f2 f3
  | succ n ih =>
    intro U σ' hn e0 e1 hB hU h1 h9 f1 f2 f3 hk
    have z1 : ¬ nI (n + 1) ≤ (0 : Int32) := nI_nle (by omega) (by omega)
    obtain ⟨e2, e3⟩ := hB
    rw [if_neg (by omega)] at e2
    have en := e1 n (by omega)
    have hv := hS.2 n (by omega)
    have nab : ¬ b = a := fun z => hab z.symm
    rw [I_187_64]
    simp (disch := first | assumption | exact bz0 | exact bz1 | exact bzi | omega | decide +kernel) only [I_187_0, I_187_1, I_187_4, I_187_7, I_187_8, I_187_11, I_187_14, I_187_15, I_187_16, I_187_19, I_187_21, I_187_22, I_187_23, I_187_26, I_187_27, I_187_28, I_187_31, I_187_32, I_187_35, I_187_36, I_187_37, I_187_40, I_187_42, I_187_43, I_187_44, I_187_47, I_187_48, I_187_49, I_187_50, I_187_53, I_187_54, I_187_55, I_187_56, I_187_58, I_187_61, I_187_63, I_187_65, I_187_68, I_187_69, I_187_70, I_187_73, I_187_74, I_187_77, I_187_78, I_187_79, I_187_80, I_187_81, I_187_82, I_187_83, I_187_84, I_187_87, I_187_89, I_187_90, I_187_91, I_187_92, I_187_95, I_187_96, I_187_97, I_187_98, I_187_99, I_187_102, I_187_104, I_187_105, I_187_106, I_187_107, I_187_110, I_187_111, I_187_112, I_187_113, I_187_114, I_187_115, I_187_116, I_187_119, I_187_120, I_187_121, I_187_122, I_187_123, I_187_124, I_187_125, I_187_128, I_187_129, I_187_132, I_187_133, I_187_134, rr_0_0, rr_0_1, rr_0_2, rr_0_3, rr_0_4, rr_0_5, rr_0_6, rr_0_7, rr_0_8, rr_1_0, rr_1_1, rr_1_2, rr_1_3, rr_2_4, rr_2_5, rr_2_6, rr_2_7, rr_2_8, rr_13_0, rr_15_4, rr_15_5, rr_15_6, rr_15_7, rr_15_8, rr_21_4, rr_21_5, rr_21_6, rr_21_7, rr_21_8, rr_27_4, rr_27_5, rr_27_6, rr_27_7, rr_27_8, rr_33_4, rr_33_5, rr_33_6, rr_33_7, rr_33_8, rr_39_4, rr_39_5, rr_39_6, rr_39_7, rr_39_8, rr_45_4, rr_45_5, rr_45_6, rr_45_7, rr_45_8, rr_51_4, rr_51_5, rr_51_6, rr_51_7, rr_51_8, rr_57_4, rr_57_5, rr_57_6, rr_57_7, rr_57_8, rr_63_2, rr_63_3, rr_63_4, rr_63_5, rr_68_0, rr_70_1, rr_70_2, rr_74_4, rr_74_5, rr_74_6, rr_74_7, rr_74_8, rr_80_4, rr_80_5, rr_80_6, rr_80_7, rr_80_8, rr_86_2, rr_88_2, rr_90_2, rr_92_0, rr_92_1, rr_92_5, rr_92_6, rr_92_8, rr_92_9, rr_92_12, rr_92_15, rr_92_16, rr_92_17, e0, z1, ↓reduceIte, pk_sub (show 1 ≤ n + 1 by omega), Nat.add_sub_cancel, u2_s, u2_i nab, u2_k, e2, pk_mul, nI_add, en]
    have hu0 : spW U (S (1 + n)) 0 = U 0 + 1 := by simp [spW]
    refine ih (spW U (S (1 + n))) _ (by omega) ?_ (fun i hi => ?_) ⟨?_, fun i hi => ?_⟩ (spW_W hU h1 (by omega) hv) (by rw [hu0]; omega) (by rw [hu0]; omega) (fun c h2 h3 => ?_) (fun c i h2 h3 h4 h5 => ?_) (fun k h2 h3 => ?_) (fun σ3 p1 p2 p3 p4 p5 => ?_)
    · rw [u2_i hab, u2_k (by omega), u2_s]
    · rw [u2_k (by omega), u2_i (by omega), u2_k (by omega)]; exact e1 i (by omega)
    · have z2 : ¬ spW U (S (1 + n)) 0 = 0 := by rw [hu0]; omega
      rw [u2_s, if_neg z2, hu0]
      rw [show U 0 - 1 + 1 = U 0 + 1 - 1 by omega]
    · have hi2 : i < U 0 := by rw [hu0] at hi; omega
      rw [u2_k (by omega)]
      by_cases e : i = U 0 - 1
      · subst e
        have : spW U (S (1 + n)) (1 + (U 0 - 1)) = S (1 + n) := by
          rw [show 1 + (U 0 - 1) = U 0 by omega]
          simp [spW]; omega
        rw [u2_s, this]
      · have : spW U (S (1 + n)) (1 + i) = U (1 + i) := by simp [spW]; omega
        rw [u2_i (by omega), u2_k (by omega), e3 i (by omega), this]
    · rw [u2_i h3, u2_k (by omega), u2_i h2]; exact f1 c h2 h3
    · rw [u2_k (by omega), u2_i (by omega), u2_k (by omega)]; exact f2 c i h2 h3 h4 h5
    · rw [u2_f h2, u2_f h3, u2_f h2]; exact f3 k h2 h3
    · have hh := hk σ3 p1 p2 p3 p4 p5
      rw [hu0, show U 0 + 1 + n - 1 = U 0 + (n + 1) - 1 by omega]
      exact hh
theorem m_rewind (E : ip_E) {σ : ip_G} {Z : Nat → Nat → Nat} (x y : Int32) (hM : MS σ Z) (hW : WZ Z) (κ : Option Value → ip_G → Prop) (hk : ∀ σ', MS σ' (rewZ Z x y) → frMS σ σ' → κ (some (.int (rewR Z x y))) σ') : wp E 187 0 [.ref 92, .int x, .int y] [] σ κ := by
  by_cases h : inr x 3 = true
  · by_cases hy : inr y 3 = true
    · obtain ⟨a, ha, rfl⟩ := inr_t h
      obtain ⟨b, hb, rfl⟩ := inr_t hy
      have ta := tn_nI (show a < 2147483648 by omega)
      have tb := tn_nI (show b < 2147483648 by omega)
      by_cases hab : a = b
      · subst hab
        simp only [rewZ, rewR, h, ta, not_true_eq_false, and_false, false_and, ↓reduceIte] at hk
        simp (disch := first | assumption | exact bz0 | exact bz1 | exact bzi | omega | decide +kernel) only [I_187_0, I_187_1, I_187_4, I_187_7, I_187_8, I_187_11, I_187_14, I_187_15, I_187_16, I_187_19, I_187_21, I_187_22, I_187_23, I_187_26, I_187_27, I_187_28, I_187_31, I_187_32, I_187_35, I_187_36, I_187_37, I_187_40, I_187_42, I_187_43, I_187_44, I_187_47, I_187_48, I_187_49, I_187_50, I_187_53, I_187_54, I_187_55, I_187_56, I_187_58, I_187_61, I_187_63, I_187_65, I_187_68, I_187_69, I_187_70, I_187_73, I_187_74, I_187_77, I_187_78, I_187_79, I_187_80, I_187_81, I_187_82, I_187_83, I_187_84, I_187_87, I_187_89, I_187_90, I_187_91, I_187_92, I_187_95, I_187_96, I_187_97, I_187_98, I_187_99, I_187_102, I_187_104, I_187_105, I_187_106, I_187_107, I_187_110, I_187_111, I_187_112, I_187_113, I_187_114, I_187_115, I_187_116, I_187_119, I_187_120, I_187_121, I_187_122, I_187_123, I_187_124, I_187_125, I_187_128, I_187_129, I_187_132, I_187_133, I_187_134, rr_0_0, rr_0_1, rr_0_2, rr_0_3, rr_0_4, rr_0_5, rr_0_6, rr_0_7, rr_0_8, rr_1_0, rr_1_1, rr_1_2, rr_1_3, rr_2_4, rr_2_5, rr_2_6, rr_2_7, rr_2_8, rr_13_0, rr_15_4, rr_15_5, rr_15_6, rr_15_7, rr_15_8, rr_21_4, rr_21_5, rr_21_6, rr_21_7, rr_21_8, rr_27_4, rr_27_5, rr_27_6, rr_27_7, rr_27_8, rr_33_4, rr_33_5, rr_33_6, rr_33_7, rr_33_8, rr_39_4, rr_39_5, rr_39_6, rr_39_7, rr_39_8, rr_45_4, rr_45_5, rr_45_6, rr_45_7, rr_45_8, rr_51_4, rr_51_5, rr_51_6, rr_51_7, rr_51_8, rr_57_4, rr_57_5, rr_57_6, rr_57_7, rr_57_8, rr_63_2, rr_63_3, rr_63_4, rr_63_5, rr_68_0, rr_70_1, rr_70_2, rr_74_4, rr_74_5, rr_74_6, rr_74_7, rr_74_8, rr_80_4, rr_80_5, rr_80_6, rr_80_7, rr_80_8, rr_86_2, rr_88_2, rr_90_2, rr_92_0, rr_92_1, rr_92_5, rr_92_6, rr_92_8, rr_92_9, rr_92_12, rr_92_15, rr_92_16, rr_92_17, m_isSpool, h, b2n, nz1, not_true_eq_false, ↓reduceIte, Option.toList_some, List.cons_append, List.nil_append]
        exact hk σ hM (fun _ _ _ => rfl)
      · have z1 : ¬ nI a = nI b := fun z => hab ((nI_eq (by omega) (by omega)).mp z)
        obtain ⟨c0, c1⟩ := hM a ha
        obtain ⟨d0, d1⟩ := hM b hb
        have wa := (hW a ha).1
        have wb := (hW b hb).1
        have n1 : (-1 : Int32) < 0 := by decide
        by_cases hz : Z a 0 = 0
        · rw [if_pos hz] at c0
          simp only [rewZ, rewR, h, hy, ta, tb, hab, hz, not_true_eq_false, not_false_eq_true, true_or, and_false, false_and, and_self, ↓reduceIte] at hk
          simp (disch := first | assumption | exact bz0 | exact bz1 | exact bzi | omega | decide +kernel) only [I_187_0, I_187_1, I_187_4, I_187_7, I_187_8, I_187_11, I_187_14, I_187_15, I_187_16, I_187_19, I_187_21, I_187_22, I_187_23, I_187_26, I_187_27, I_187_28, I_187_31, I_187_32, I_187_35, I_187_36, I_187_37, I_187_40, I_187_42, I_187_43, I_187_44, I_187_47, I_187_48, I_187_49, I_187_50, I_187_53, I_187_54, I_187_55, I_187_56, I_187_58, I_187_61, I_187_63, I_187_65, I_187_68, I_187_69, I_187_70, I_187_73, I_187_74, I_187_77, I_187_78, I_187_79, I_187_80, I_187_81, I_187_82, I_187_83, I_187_84, I_187_87, I_187_89, I_187_90, I_187_91, I_187_92, I_187_95, I_187_96, I_187_97, I_187_98, I_187_99, I_187_102, I_187_104, I_187_105, I_187_106, I_187_107, I_187_110, I_187_111, I_187_112, I_187_113, I_187_114, I_187_115, I_187_116, I_187_119, I_187_120, I_187_121, I_187_122, I_187_123, I_187_124, I_187_125, I_187_128, I_187_129, I_187_132, I_187_133, I_187_134, rr_0_0, rr_0_1, rr_0_2, rr_0_3, rr_0_4, rr_0_5, rr_0_6, rr_0_7, rr_0_8, rr_1_0, rr_1_1, rr_1_2, rr_1_3, rr_2_4, rr_2_5, rr_2_6, rr_2_7, rr_2_8, rr_13_0, rr_15_4, rr_15_5, rr_15_6, rr_15_7, rr_15_8, rr_21_4, rr_21_5, rr_21_6, rr_21_7, rr_21_8, rr_27_4, rr_27_5, rr_27_6, rr_27_7, rr_27_8, rr_33_4, rr_33_5, rr_33_6, rr_33_7, rr_33_8, rr_39_4, rr_39_5, rr_39_6, rr_39_7, rr_39_8, rr_45_4, rr_45_5, rr_45_6, rr_45_7, rr_45_8, rr_51_4, rr_51_5, rr_51_6, rr_51_7, rr_51_8, rr_57_4, rr_57_5, rr_57_6, rr_57_7, rr_57_8, rr_63_2, rr_63_3, rr_63_4, rr_63_5, rr_68_0, rr_70_1, rr_70_2, rr_74_4, rr_74_5, rr_74_6, rr_74_7, rr_74_8, rr_80_4, rr_80_5, rr_80_6, rr_80_7, rr_80_8, rr_86_2, rr_88_2, rr_90_2, rr_92_0, rr_92_1, rr_92_5, rr_92_6, rr_92_8, rr_92_9, rr_92_12, rr_92_15, rr_92_16, rr_92_17, m_isSpool, h, hy, b2n, nz1, z1, not_false_eq_true, c0, n1, ↓reduceIte, Option.toList_some, List.cons_append, List.nil_append]
          exact hk σ hM (fun _ _ _ => rfl)
        · rw [if_neg hz] at c0
          have g0 : ¬ nI (Z a 0 - 1) < 0 := nI_pos (by omega)
          by_cases hz2 : Z b 0 = 0
          · rw [if_pos hz2] at d0
            simp only [rewZ, rewR, h, hy, ta, tb, hab, hz, hz2, not_true_eq_false, not_false_eq_true, or_true, and_false, false_and, and_self, ↓reduceIte] at hk
            simp (disch := first | assumption | exact bz0 | exact bz1 | exact bzi | omega | decide +kernel) only [I_187_0, I_187_1, I_187_4, I_187_7, I_187_8, I_187_11, I_187_14, I_187_15, I_187_16, I_187_19, I_187_21, I_187_22, I_187_23, I_187_26, I_187_27, I_187_28, I_187_31, I_187_32, I_187_35, I_187_36, I_187_37, I_187_40, I_187_42, I_187_43, I_187_44, I_187_47, I_187_48, I_187_49, I_187_50, I_187_53, I_187_54, I_187_55, I_187_56, I_187_58, I_187_61, I_187_63, I_187_65, I_187_68, I_187_69, I_187_70, I_187_73, I_187_74, I_187_77, I_187_78, I_187_79, I_187_80, I_187_81, I_187_82, I_187_83, I_187_84, I_187_87, I_187_89, I_187_90, I_187_91, I_187_92, I_187_95, I_187_96, I_187_97, I_187_98, I_187_99, I_187_102, I_187_104, I_187_105, I_187_106, I_187_107, I_187_110, I_187_111, I_187_112, I_187_113, I_187_114, I_187_115, I_187_116, I_187_119, I_187_120, I_187_121, I_187_122, I_187_123, I_187_124, I_187_125, I_187_128, I_187_129, I_187_132, I_187_133, I_187_134, rr_0_0, rr_0_1, rr_0_2, rr_0_3, rr_0_4, rr_0_5, rr_0_6, rr_0_7, rr_0_8, rr_1_0, rr_1_1, rr_1_2, rr_1_3, rr_2_4, rr_2_5, rr_2_6, rr_2_7, rr_2_8, rr_13_0, rr_15_4, rr_15_5, rr_15_6, rr_15_7, rr_15_8, rr_21_4, rr_21_5, rr_21_6, rr_21_7, rr_21_8, rr_27_4, rr_27_5, rr_27_6, rr_27_7, rr_27_8, rr_33_4, rr_33_5, rr_33_6, rr_33_7, rr_33_8, rr_39_4, rr_39_5, rr_39_6, rr_39_7, rr_39_8, rr_45_4, rr_45_5, rr_45_6, rr_45_7, rr_45_8, rr_51_4, rr_51_5, rr_51_6, rr_51_7, rr_51_8, rr_57_4, rr_57_5, rr_57_6, rr_57_7, rr_57_8, rr_63_2, rr_63_3, rr_63_4, rr_63_5, rr_68_0, rr_70_1, rr_70_2, rr_74_4, rr_74_5, rr_74_6, rr_74_7, rr_74_8, rr_80_4, rr_80_5, rr_80_6, rr_80_7, rr_80_8, rr_86_2, rr_88_2, rr_90_2, rr_92_0, rr_92_1, rr_92_5, rr_92_6, rr_92_8, rr_92_9, rr_92_12, rr_92_15, rr_92_16, rr_92_17, m_isSpool, h, hy, b2n, nz1, z1, not_false_eq_true, c0, d0, g0, neg1_lt, ↓reduceIte, Option.toList_some, List.cons_append, List.nil_append]
            exact hk σ hM (fun _ _ _ => rfl)
          · rw [if_neg hz2] at d0
            have g1 := ge0n (Z b 0 - 1) (by omega)
            by_cases h8 : 8 < (Z a 0 - 1) + (Z b 0 - 1)
            · have a8 : ¬ nI ((Z a 0 - 1) + (Z b 0 - 1)) ≤ nI 8 := nI_ge h8 (by omega)
              simp only [rewZ, rewR, h, hy, ta, tb, hab, hz, hz2, h8, not_true_eq_false, not_false_eq_true, or_self, and_false, and_self, ↓reduceIte] at hk
              simp (disch := first | assumption | exact bz0 | exact bz1 | exact bzi | omega | decide +kernel) only [I_187_0, I_187_1, I_187_4, I_187_7, I_187_8, I_187_11, I_187_14, I_187_15, I_187_16, I_187_19, I_187_21, I_187_22, I_187_23, I_187_26, I_187_27, I_187_28, I_187_31, I_187_32, I_187_35, I_187_36, I_187_37, I_187_40, I_187_42, I_187_43, I_187_44, I_187_47, I_187_48, I_187_49, I_187_50, I_187_53, I_187_54, I_187_55, I_187_56, I_187_58, I_187_61, I_187_63, I_187_65, I_187_68, I_187_69, I_187_70, I_187_73, I_187_74, I_187_77, I_187_78, I_187_79, I_187_80, I_187_81, I_187_82, I_187_83, I_187_84, I_187_87, I_187_89, I_187_90, I_187_91, I_187_92, I_187_95, I_187_96, I_187_97, I_187_98, I_187_99, I_187_102, I_187_104, I_187_105, I_187_106, I_187_107, I_187_110, I_187_111, I_187_112, I_187_113, I_187_114, I_187_115, I_187_116, I_187_119, I_187_120, I_187_121, I_187_122, I_187_123, I_187_124, I_187_125, I_187_128, I_187_129, I_187_132, I_187_133, I_187_134, rr_0_0, rr_0_1, rr_0_2, rr_0_3, rr_0_4, rr_0_5, rr_0_6, rr_0_7, rr_0_8, rr_1_0, rr_1_1, rr_1_2, rr_1_3, rr_2_4, rr_2_5, rr_2_6, rr_2_7, rr_2_8, rr_13_0, rr_15_4, rr_15_5, rr_15_6, rr_15_7, rr_15_8, rr_21_4, rr_21_5, rr_21_6, rr_21_7, rr_21_8, rr_27_4, rr_27_5, rr_27_6, rr_27_7, rr_27_8, rr_33_4, rr_33_5, rr_33_6, rr_33_7, rr_33_8, rr_39_4, rr_39_5, rr_39_6, rr_39_7, rr_39_8, rr_45_4, rr_45_5, rr_45_6, rr_45_7, rr_45_8, rr_51_4, rr_51_5, rr_51_6, rr_51_7, rr_51_8, rr_57_4, rr_57_5, rr_57_6, rr_57_7, rr_57_8, rr_63_2, rr_63_3, rr_63_4, rr_63_5, rr_68_0, rr_70_1, rr_70_2, rr_74_4, rr_74_5, rr_74_6, rr_74_7, rr_74_8, rr_80_4, rr_80_5, rr_80_6, rr_80_7, rr_80_8, rr_86_2, rr_88_2, rr_90_2, rr_92_0, rr_92_1, rr_92_5, rr_92_6, rr_92_8, rr_92_9, rr_92_12, rr_92_15, rr_92_16, rr_92_17, m_isSpool, h, hy, b2n, nz1, z1, not_false_eq_true, c0, d0, g0, g1, nI_add, a8, ↓reduceIte, Option.toList_some, List.cons_append, List.nil_append]
              exact hk σ hM (fun _ _ _ => rfl)
            · have a8 : nI ((Z a 0 - 1) + (Z b 0 - 1)) ≤ nI 8 := nI_le (by omega) (by omega)
              simp only [rewZ, rewR, h, hy, ta, tb, hab, hz, hz2, h8, not_false_eq_true, or_self, and_self, ↓reduceIte] at hk
              simp (disch := first | assumption | exact bz0 | exact bz1 | exact bzi | omega | decide +kernel) only [I_187_0, I_187_1, I_187_4, I_187_7, I_187_8, I_187_11, I_187_14, I_187_15, I_187_16, I_187_19, I_187_21, I_187_22, I_187_23, I_187_26, I_187_27, I_187_28, I_187_31, I_187_32, I_187_35, I_187_36, I_187_37, I_187_40, I_187_42, I_187_43, I_187_44, I_187_47, I_187_48, I_187_49, I_187_50, I_187_53, I_187_54, I_187_55, I_187_56, I_187_58, I_187_61, I_187_63, I_187_65, I_187_68, I_187_69, I_187_70, I_187_73, I_187_74, I_187_77, I_187_78, I_187_79, I_187_80, I_187_81, I_187_82, I_187_83, I_187_84, I_187_87, I_187_89, I_187_90, I_187_91, I_187_92, I_187_95, I_187_96, I_187_97, I_187_98, I_187_99, I_187_102, I_187_104, I_187_105, I_187_106, I_187_107, I_187_110, I_187_111, I_187_112, I_187_113, I_187_114, I_187_115, I_187_116, I_187_119, I_187_120, I_187_121, I_187_122, I_187_123, I_187_124, I_187_125, I_187_128, I_187_129, I_187_132, I_187_133, I_187_134, rr_0_0, rr_0_1, rr_0_2, rr_0_3, rr_0_4, rr_0_5, rr_0_6, rr_0_7, rr_0_8, rr_1_0, rr_1_1, rr_1_2, rr_1_3, rr_2_4, rr_2_5, rr_2_6, rr_2_7, rr_2_8, rr_13_0, rr_15_4, rr_15_5, rr_15_6, rr_15_7, rr_15_8, rr_21_4, rr_21_5, rr_21_6, rr_21_7, rr_21_8, rr_27_4, rr_27_5, rr_27_6, rr_27_7, rr_27_8, rr_33_4, rr_33_5, rr_33_6, rr_33_7, rr_33_8, rr_39_4, rr_39_5, rr_39_6, rr_39_7, rr_39_8, rr_45_4, rr_45_5, rr_45_6, rr_45_7, rr_45_8, rr_51_4, rr_51_5, rr_51_6, rr_51_7, rr_51_8, rr_57_4, rr_57_5, rr_57_6, rr_57_7, rr_57_8, rr_63_2, rr_63_3, rr_63_4, rr_63_5, rr_68_0, rr_70_1, rr_70_2, rr_74_4, rr_74_5, rr_74_6, rr_74_7, rr_74_8, rr_80_4, rr_80_5, rr_80_6, rr_80_7, rr_80_8, rr_86_2, rr_88_2, rr_90_2, rr_92_0, rr_92_1, rr_92_5, rr_92_6, rr_92_8, rr_92_9, rr_92_12, rr_92_15, rr_92_16, rr_92_17, m_isSpool, h, hy, b2n, nz1, z1, not_false_eq_true, c0, d0, g0, g1, nI_add, a8, ↓reduceIte, Option.toList_some, List.cons_append, List.nil_append]
              refine L_mrew E ha hb hab (hW a ha) κ (Z a 0 - 1) (Z b) σ (by omega) c0 (fun i hi => c1 i (by omega)) (hM b hb) (hW b hb) (by omega) (by omega) (fun _ _ _ => rfl) (fun _ _ _ _ _ _ => rfl) (fun _ _ _ => rfl) (fun σ2 p1 p2 p3 p4 p5 => ?_)
              rw [show Z b 0 + (Z a 0 - 1) - 1 = (Z a 0 - 1) + (Z b 0 - 1) by omega]
              refine hk σ2 (fun t ht => ?_) p5
              by_cases e1 : t = a
              · subst e1
                rw [zU_s]
                exact ⟨by rw [p1]; simp [sp1], fun i hi => by simp [sp1] at hi⟩
              · rw [zU_n e1]
                by_cases e2 : t = b
                · subst e2
                  rw [zU_s]
                  exact p2
                · rw [zU_n e2]
                  have h1 := hM t ht
                  have w3 := (hW t ht).1
                  exact ⟨by rw [p3 t e1 e2]; exact h1.1, fun i hi => by rw [p4 t i ht e1 e2 (by omega)]; exact h1.2 i hi⟩
    · have hb : inr y 3 = false := by simpa using hy
      simp only [rewZ, rewR, hy, ↓reduceIte, false_and, and_false, Bool.false_eq_true] at hk
      simp (disch := first | assumption | exact bz0 | exact bz1 | exact bzi | omega | decide +kernel) only [I_187_0, I_187_1, I_187_4, I_187_7, I_187_8, I_187_11, I_187_14, I_187_15, I_187_16, I_187_19, I_187_21, I_187_22, I_187_23, I_187_26, I_187_27, I_187_28, I_187_31, I_187_32, I_187_35, I_187_36, I_187_37, I_187_40, I_187_42, I_187_43, I_187_44, I_187_47, I_187_48, I_187_49, I_187_50, I_187_53, I_187_54, I_187_55, I_187_56, I_187_58, I_187_61, I_187_63, I_187_65, I_187_68, I_187_69, I_187_70, I_187_73, I_187_74, I_187_77, I_187_78, I_187_79, I_187_80, I_187_81, I_187_82, I_187_83, I_187_84, I_187_87, I_187_89, I_187_90, I_187_91, I_187_92, I_187_95, I_187_96, I_187_97, I_187_98, I_187_99, I_187_102, I_187_104, I_187_105, I_187_106, I_187_107, I_187_110, I_187_111, I_187_112, I_187_113, I_187_114, I_187_115, I_187_116, I_187_119, I_187_120, I_187_121, I_187_122, I_187_123, I_187_124, I_187_125, I_187_128, I_187_129, I_187_132, I_187_133, I_187_134, rr_0_0, rr_0_1, rr_0_2, rr_0_3, rr_0_4, rr_0_5, rr_0_6, rr_0_7, rr_0_8, rr_1_0, rr_1_1, rr_1_2, rr_1_3, rr_2_4, rr_2_5, rr_2_6, rr_2_7, rr_2_8, rr_13_0, rr_15_4, rr_15_5, rr_15_6, rr_15_7, rr_15_8, rr_21_4, rr_21_5, rr_21_6, rr_21_7, rr_21_8, rr_27_4, rr_27_5, rr_27_6, rr_27_7, rr_27_8, rr_33_4, rr_33_5, rr_33_6, rr_33_7, rr_33_8, rr_39_4, rr_39_5, rr_39_6, rr_39_7, rr_39_8, rr_45_4, rr_45_5, rr_45_6, rr_45_7, rr_45_8, rr_51_4, rr_51_5, rr_51_6, rr_51_7, rr_51_8, rr_57_4, rr_57_5, rr_57_6, rr_57_7, rr_57_8, rr_63_2, rr_63_3, rr_63_4, rr_63_5, rr_68_0, rr_70_1, rr_70_2, rr_74_4, rr_74_5, rr_74_6, rr_74_7, rr_74_8, rr_80_4, rr_80_5, rr_80_6, rr_80_7, rr_80_8, rr_86_2, rr_88_2, rr_90_2, rr_92_0, rr_92_1, rr_92_5, rr_92_6, rr_92_8, rr_92_9, rr_92_12, rr_92_15, rr_92_16, rr_92_17, m_isSpool, h, hb, b2n, nz1, ip_nI0, Bool.false_eq_true, ↓reduceIte, Option.toList_some, List.cons_append, List.nil_append]
      exact hk σ hM (fun _ _ _ => rfl)
  · simp only [rewZ, rewR, h, ↓reduceIte, false_and, Bool.false_eq_true] at hk
    have hb : inr x 3 = false := by simpa using h
    simp (disch := first | assumption | exact bz0 | exact bz1 | exact bzi | omega | decide +kernel) only [I_187_0, I_187_1, I_187_4, I_187_7, I_187_8, I_187_11, I_187_14, I_187_15, I_187_16, I_187_19, I_187_21, I_187_22, I_187_23, I_187_26, I_187_27, I_187_28, I_187_31, I_187_32, I_187_35, I_187_36, I_187_37, I_187_40, I_187_42, I_187_43, I_187_44, I_187_47, I_187_48, I_187_49, I_187_50, I_187_53, I_187_54, I_187_55, I_187_56, I_187_58, I_187_61, I_187_63, I_187_65, I_187_68, I_187_69, I_187_70, I_187_73, I_187_74, I_187_77, I_187_78, I_187_79, I_187_80, I_187_81, I_187_82, I_187_83, I_187_84, I_187_87, I_187_89, I_187_90, I_187_91, I_187_92, I_187_95, I_187_96, I_187_97, I_187_98, I_187_99, I_187_102, I_187_104, I_187_105, I_187_106, I_187_107, I_187_110, I_187_111, I_187_112, I_187_113, I_187_114, I_187_115, I_187_116, I_187_119, I_187_120, I_187_121, I_187_122, I_187_123, I_187_124, I_187_125, I_187_128, I_187_129, I_187_132, I_187_133, I_187_134, m_isSpool, hb, b2n, ip_nI0, Bool.false_eq_true, ↓reduceIte, Option.toList_some, List.cons_append, List.nil_append]
    exact hk σ hM (fun _ _ _ => rfl)
