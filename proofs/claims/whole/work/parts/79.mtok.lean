/-! the reference's tokens -/
theorem lk97 : (97 : Int64).toInt = 97 := by decide +kernel
theorem lk122 : (122 : Int64).toInt = 122 := by decide +kernel
theorem lk48 : (48 : Int64).toInt = 48 := by decide +kernel
theorem lk57 : (57 : Int64).toInt = 57 := by decide +kernel
theorem m_isSmall (E : ip_E) {c : Nat} (hc : c < 256) (σ : ip_G) (κ : Option Value → ip_G → Prop) : wp E 130 0 [.int (nI c)] [] σ κ = κ (some (.int (nI (b2n (decide (kd c = 1)))))) σ := by
  have hd : decide ((97 : Int) ≤ (nI c).toInt ∧ (nI c).toInt ≤ 122) = decide (kd c = 1) := by
    rw [nI_toInt (show c < 2 ^ 31 by omega)]
    by_cases h : kd c = 1
    · have := kd_1.mp h
      rw [decide_eq_true h, decide_eq_true (by omega)]
    · have : ¬ (97 ≤ c ∧ c ≤ 122) := fun z => h (kd_1.mpr z)
      rw [decide_eq_false h, decide_eq_false (by omega)]
  simp (disch := first | assumption | exact bz0 | exact bz1 | exact bzi | exact b2n_bz _ | omega | decide +kernel) only [I_130_0, I_130_1, I_130_2, I_130_5, I_130_8, I_130_11, m_in, i2l_toInt, lk97, lk122, hd, Option.toList_some, List.cons_append, List.nil_append]
theorem m_isDigit (E : ip_E) {c : Nat} (hc : c < 256) (σ : ip_G) (κ : Option Value → ip_G → Prop) : wp E 131 0 [.int (nI c)] [] σ κ = κ (some (.int (nI (b2n (decide (kd c = 2)))))) σ := by
  have hd : decide ((48 : Int) ≤ (nI c).toInt ∧ (nI c).toInt ≤ 57) = decide (kd c = 2) := by
    rw [nI_toInt (show c < 2 ^ 31 by omega)]
    by_cases h : kd c = 2
    · have := kd_2.mp h
      rw [decide_eq_true h, decide_eq_true (by omega)]
    · have : ¬ (48 ≤ c ∧ c ≤ 57) := fun z => h (kd_2.mpr z)
      rw [decide_eq_false h, decide_eq_false (by omega)]
  simp (disch := first | assumption | exact bz0 | exact bz1 | exact bzi | exact b2n_bz _ | omega | decide +kernel) only [I_131_0, I_131_1, I_131_2, I_131_5, I_131_8, I_131_11, m_in, i2l_toInt, lk48, lk57, hd, Option.toList_some, List.cons_append, List.nil_append]
theorem MT_fr {σ σ' : ip_G} {n : Nat} {T : Nat → Nat} (h : MT σ n T) (h1 : σ' 92 7 = σ 92 7) (h2 : σ' 96 = σ 96) : MT σ' n T := by
  unfold MT
  rw [h1, h2]
  exact h
def frN (σ σ' : ip_G) : Prop := (∀ k, k ≠ 92 → σ' k = σ k) ∧ ∀ j, j ≠ 10 → j ≠ 11 → σ' 92 j = σ 92 j
theorem frN_t {a b c : ip_G} (h : frN a b) (g : frN b c) : frN a c := ⟨fun k z => by rw [g.1 k z, h.1 k z], fun j x y => by rw [g.2 j x y, h.2 j x y]⟩
theorem frN_u (σ : ip_G) (v : Int32) : frN σ (ip_u2 σ 92 10 v) := ⟨fun k h => u2_f h, fun j h _ => u2_i h⟩
theorem frN_v (σ : ip_G) (v : Int32) : frN σ (ip_u2 σ 92 11 v) := ⟨fun k h => u2_f h, fun j _ h => u2_i h⟩
theorem L_next1 (E : ip_E) {n : Nat} {T : Nat → Nat} (κ : Option Value → ip_G → Prop) : ∀ (m s : Nat) (σ : ip_G), s + m = n → MT σ n T → σ 92 10 = nI s → (∀ σ2, MT σ2 n T → σ2 92 10 = nI (skF T m s) → frN σ σ2 → wp E 129 46 [.ref 92] [] σ2 κ) → wp E 129 8 [.ref 92] [] σ κ := by
  intro m
  induction m with
  | zero =>
    intro s σ hs hT h2 hk
    have hn := hT.2.1
    have hc : nI n ≤ nI s := nI_le (by omega) (by omega)
    simp (disch := first | assumption | exact bz0 | exact bz1 | exact bzi | omega | decide +kernel) only [I_129_0, I_129_1, I_129_2, I_129_5, I_129_8, I_129_9, I_129_12, I_129_13, I_129_16, I_129_19, I_129_20, I_129_23, I_129_24, I_129_27, I_129_28, I_129_30, I_129_33, I_129_34, I_129_35, I_129_38, I_129_39, I_129_40, I_129_43, I_129_47, I_129_48, I_129_51, I_129_52, I_129_55, I_129_58, I_129_59, I_129_62, I_129_63, I_129_64, I_129_67, I_129_68, I_129_71, I_129_74, I_129_75, I_129_78, I_129_79, I_129_82, I_129_85, I_129_86, I_129_89, I_129_90, I_129_93, I_129_94, I_129_97, I_129_101, I_129_104, I_129_105, I_129_108, I_129_111, I_129_112, I_129_115, I_129_116, I_129_119, I_129_120, I_129_123, I_129_126, I_129_127, I_129_128, I_129_131, I_129_132, I_129_133, I_129_136, I_129_139, I_129_140, I_129_143, I_129_144, I_129_147, I_129_150, I_129_151, I_129_154, I_129_155, I_129_158, I_129_159, I_129_162, I_129_166, I_129_169, I_129_170, I_129_173, I_129_176, I_129_177, I_129_180, I_129_181, I_129_184, I_129_185, I_129_188, I_129_191, I_129_192, I_129_193, I_129_196, I_129_197, I_129_198, I_129_201, I_129_204, h2, hT.1, hc, ↓reduceIte]
    exact hk σ hT h2 ⟨fun _ _ => rfl, fun _ _ _ => rfl⟩
  | succ m ih =>
    intro s σ hs hT h2 hk
    have hn := hT.2.1
    have hc : ¬ nI n ≤ nI s := nI_ge (by omega) (by omega)
    obtain ⟨t1, t2⟩ := hT.2.2 s (by omega)
    rw [I_129_8]
    by_cases h : T s = 32
    · have hq : nI (T s) = nI 32 := by rw [h]
      simp (disch := first | assumption | exact bz0 | exact bz1 | exact bzi | omega | decide +kernel) only [I_129_0, I_129_1, I_129_2, I_129_5, I_129_9, I_129_12, I_129_13, I_129_16, I_129_19, I_129_20, I_129_23, I_129_24, I_129_27, I_129_28, I_129_30, I_129_33, I_129_34, I_129_35, I_129_38, I_129_39, I_129_40, I_129_43, I_129_47, I_129_48, I_129_51, I_129_52, I_129_55, I_129_58, I_129_59, I_129_62, I_129_63, I_129_64, I_129_67, I_129_68, I_129_71, I_129_74, I_129_75, I_129_78, I_129_79, I_129_82, I_129_85, I_129_86, I_129_89, I_129_90, I_129_93, I_129_94, I_129_97, I_129_101, I_129_104, I_129_105, I_129_108, I_129_111, I_129_112, I_129_115, I_129_116, I_129_119, I_129_120, I_129_123, I_129_126, I_129_127, I_129_128, I_129_131, I_129_132, I_129_133, I_129_136, I_129_139, I_129_140, I_129_143, I_129_144, I_129_147, I_129_150, I_129_151, I_129_154, I_129_155, I_129_158, I_129_159, I_129_162, I_129_166, I_129_169, I_129_170, I_129_173, I_129_176, I_129_177, I_129_180, I_129_181, I_129_184, I_129_185, I_129_188, I_129_191, I_129_192, I_129_193, I_129_196, I_129_197, I_129_198, I_129_201, I_129_204, rr_0_0, rr_0_1, rr_0_2, rr_0_3, rr_0_4, rr_0_5, rr_0_6, rr_0_7, rr_0_8, rr_1_0, rr_1_1, rr_1_2, rr_1_3, rr_2_4, rr_2_5, rr_2_6, rr_2_7, rr_2_8, rr_13_0, rr_15_4, rr_15_5, rr_15_6, rr_15_7, rr_15_8, rr_21_4, rr_21_5, rr_21_6, rr_21_7, rr_21_8, rr_27_4, rr_27_5, rr_27_6, rr_27_7, rr_27_8, rr_33_4, rr_33_5, rr_33_6, rr_33_7, rr_33_8, rr_39_4, rr_39_5, rr_39_6, rr_39_7, rr_39_8, rr_45_4, rr_45_5, rr_45_6, rr_45_7, rr_45_8, rr_51_4, rr_51_5, rr_51_6, rr_51_7, rr_51_8, rr_57_4, rr_57_5, rr_57_6, rr_57_7, rr_57_8, rr_63_2, rr_63_3, rr_63_4, rr_63_5, rr_68_0, rr_70_1, rr_70_2, rr_74_4, rr_74_5, rr_74_6, rr_74_7, rr_74_8, rr_80_4, rr_80_5, rr_80_6, rr_80_7, rr_80_8, rr_86_2, rr_88_2, rr_90_2, rr_92_0, rr_92_1, rr_92_5, rr_92_6, rr_92_8, rr_92_9, rr_92_12, rr_92_15, rr_92_16, rr_92_17, h2, hT.1, hc, t1, hq, not_true_eq_false, ↓reduceIte, nI_add]
      refine ih (s + 1) _ (by omega) (MT_fr hT (by rw [u2_i (by omega)]) (by rw [u2_f (by omega)])) (u2_s _ _ _ _) (fun σ2 a b c => ?_)
      refine hk σ2 a ?_ (frN_t (frN_u σ _) c)
      rw [b]
      show _ = nI (if T s = 32 then skF T m (s + 1) else s)
      rw [if_pos h]
    · have hq : ¬ nI (T s) = nI 32 := fun z => h ((nI_eq (by omega) (by omega)).mp z)
      simp (disch := first | assumption | exact bz0 | exact bz1 | exact bzi | omega | decide +kernel) only [I_129_0, I_129_1, I_129_2, I_129_5, I_129_9, I_129_12, I_129_13, I_129_16, I_129_19, I_129_20, I_129_23, I_129_24, I_129_27, I_129_28, I_129_30, I_129_33, I_129_34, I_129_35, I_129_38, I_129_39, I_129_40, I_129_43, I_129_47, I_129_48, I_129_51, I_129_52, I_129_55, I_129_58, I_129_59, I_129_62, I_129_63, I_129_64, I_129_67, I_129_68, I_129_71, I_129_74, I_129_75, I_129_78, I_129_79, I_129_82, I_129_85, I_129_86, I_129_89, I_129_90, I_129_93, I_129_94, I_129_97, I_129_101, I_129_104, I_129_105, I_129_108, I_129_111, I_129_112, I_129_115, I_129_116, I_129_119, I_129_120, I_129_123, I_129_126, I_129_127, I_129_128, I_129_131, I_129_132, I_129_133, I_129_136, I_129_139, I_129_140, I_129_143, I_129_144, I_129_147, I_129_150, I_129_151, I_129_154, I_129_155, I_129_158, I_129_159, I_129_162, I_129_166, I_129_169, I_129_170, I_129_173, I_129_176, I_129_177, I_129_180, I_129_181, I_129_184, I_129_185, I_129_188, I_129_191, I_129_192, I_129_193, I_129_196, I_129_197, I_129_198, I_129_201, I_129_204, rr_0_0, rr_0_1, rr_0_2, rr_0_3, rr_0_4, rr_0_5, rr_0_6, rr_0_7, rr_0_8, rr_1_0, rr_1_1, rr_1_2, rr_1_3, rr_2_4, rr_2_5, rr_2_6, rr_2_7, rr_2_8, rr_13_0, rr_15_4, rr_15_5, rr_15_6, rr_15_7, rr_15_8, rr_21_4, rr_21_5, rr_21_6, rr_21_7, rr_21_8, rr_27_4, rr_27_5, rr_27_6, rr_27_7, rr_27_8, rr_33_4, rr_33_5, rr_33_6, rr_33_7, rr_33_8, rr_39_4, rr_39_5, rr_39_6, rr_39_7, rr_39_8, rr_45_4, rr_45_5, rr_45_6, rr_45_7, rr_45_8, rr_51_4, rr_51_5, rr_51_6, rr_51_7, rr_51_8, rr_57_4, rr_57_5, rr_57_6, rr_57_7, rr_57_8, rr_63_2, rr_63_3, rr_63_4, rr_63_5, rr_68_0, rr_70_1, rr_70_2, rr_74_4, rr_74_5, rr_74_6, rr_74_7, rr_74_8, rr_80_4, rr_80_5, rr_80_6, rr_80_7, rr_80_8, rr_86_2, rr_88_2, rr_90_2, rr_92_0, rr_92_1, rr_92_5, rr_92_6, rr_92_8, rr_92_9, rr_92_12, rr_92_15, rr_92_16, rr_92_17, h2, hT.1, hc, t1, hq, not_false_eq_true, ↓reduceIte]
      refine hk σ hT ?_ ⟨fun _ _ => rfl, fun _ _ _ => rfl⟩
      rw [h2]
      show _ = nI (if T s = 32 then skF T m (s + 1) else s)
      rw [if_neg h]
theorem L_next2 (E : ip_E) {n : Nat} {T : Nat → Nat} (κ : Option Value → ip_G → Prop) : ∀ (m e : Nat) (σ : ip_G), e + m = n → MT σ n T → σ 92 11 = nI e → (∀ σ2, σ2 92 11 = nI (rnF T 1 m e) → frN σ σ2 → σ2 92 10 = σ 92 10 → κ none σ2) → wp E 129 100 [.ref 92] [] σ κ := by
  intro m
  induction m with
  | zero =>
    intro e σ he hT h2 hk
    have hn := hT.2.1
    have hc : nI n ≤ nI e := nI_le (by omega) (by omega)
    simp (disch := first | assumption | exact bz0 | exact bz1 | exact bzi | omega | decide +kernel) only [I_129_0, I_129_1, I_129_2, I_129_5, I_129_9, I_129_12, I_129_13, I_129_16, I_129_19, I_129_20, I_129_23, I_129_24, I_129_27, I_129_28, I_129_30, I_129_33, I_129_34, I_129_35, I_129_38, I_129_39, I_129_40, I_129_43, I_129_46, I_129_47, I_129_48, I_129_51, I_129_52, I_129_55, I_129_58, I_129_59, I_129_62, I_129_63, I_129_64, I_129_67, I_129_68, I_129_71, I_129_74, I_129_75, I_129_78, I_129_79, I_129_82, I_129_85, I_129_86, I_129_89, I_129_90, I_129_93, I_129_94, I_129_97, I_129_100, I_129_101, I_129_104, I_129_105, I_129_108, I_129_111, I_129_112, I_129_115, I_129_116, I_129_119, I_129_120, I_129_123, I_129_126, I_129_127, I_129_128, I_129_131, I_129_132, I_129_133, I_129_136, I_129_139, I_129_140, I_129_143, I_129_144, I_129_147, I_129_150, I_129_151, I_129_154, I_129_155, I_129_158, I_129_159, I_129_162, I_129_166, I_129_169, I_129_170, I_129_173, I_129_176, I_129_177, I_129_180, I_129_181, I_129_184, I_129_185, I_129_188, I_129_191, I_129_192, I_129_193, I_129_196, I_129_197, I_129_198, I_129_201, I_129_204, h2, hT.1, hc, ↓reduceIte]
    exact hk σ h2 ⟨fun _ _ => rfl, fun _ _ _ => rfl⟩ rfl
  | succ m ih =>
    intro e σ he hT h2 hk
    have hn := hT.2.1
    have hc : ¬ nI n ≤ nI e := nI_ge (by omega) (by omega)
    obtain ⟨t1, t2⟩ := hT.2.2 e (by omega)
    rw [I_129_100]
    by_cases h : kd (T e) = 1
    · have hd : decide (kd (T e) = 1) = true := decide_eq_true h
      simp (disch := first | assumption | exact bz0 | exact bz1 | exact bzi | omega | decide +kernel) only [I_129_0, I_129_1, I_129_2, I_129_5, I_129_9, I_129_12, I_129_13, I_129_16, I_129_19, I_129_20, I_129_23, I_129_24, I_129_27, I_129_28, I_129_30, I_129_33, I_129_34, I_129_35, I_129_38, I_129_39, I_129_40, I_129_43, I_129_46, I_129_47, I_129_48, I_129_51, I_129_52, I_129_55, I_129_58, I_129_59, I_129_62, I_129_63, I_129_64, I_129_67, I_129_68, I_129_71, I_129_74, I_129_75, I_129_78, I_129_79, I_129_82, I_129_85, I_129_86, I_129_89, I_129_90, I_129_93, I_129_94, I_129_97, I_129_101, I_129_104, I_129_105, I_129_108, I_129_111, I_129_112, I_129_115, I_129_116, I_129_119, I_129_120, I_129_123, I_129_126, I_129_127, I_129_128, I_129_131, I_129_132, I_129_133, I_129_136, I_129_139, I_129_140, I_129_143, I_129_144, I_129_147, I_129_150, I_129_151, I_129_154, I_129_155, I_129_158, I_129_159, I_129_162, I_129_166, I_129_169, I_129_170, I_129_173, I_129_176, I_129_177, I_129_180, I_129_181, I_129_184, I_129_185, I_129_188, I_129_191, I_129_192, I_129_193, I_129_196, I_129_197, I_129_198, I_129_201, I_129_204, rr_0_0, rr_0_1, rr_0_2, rr_0_3, rr_0_4, rr_0_5, rr_0_6, rr_0_7, rr_0_8, rr_1_0, rr_1_1, rr_1_2, rr_1_3, rr_2_4, rr_2_5, rr_2_6, rr_2_7, rr_2_8, rr_13_0, rr_15_4, rr_15_5, rr_15_6, rr_15_7, rr_15_8, rr_21_4, rr_21_5, rr_21_6, rr_21_7, rr_21_8, rr_27_4, rr_27_5, rr_27_6, rr_27_7, rr_27_8, rr_33_4, rr_33_5, rr_33_6, rr_33_7, rr_33_8, rr_39_4, rr_39_5, rr_39_6, rr_39_7, rr_39_8, rr_45_4, rr_45_5, rr_45_6, rr_45_7, rr_45_8, rr_51_4, rr_51_5, rr_51_6, rr_51_7, rr_51_8, rr_57_4, rr_57_5, rr_57_6, rr_57_7, rr_57_8, rr_63_2, rr_63_3, rr_63_4, rr_63_5, rr_68_0, rr_70_1, rr_70_2, rr_74_4, rr_74_5, rr_74_6, rr_74_7, rr_74_8, rr_80_4, rr_80_5, rr_80_6, rr_80_7, rr_80_8, rr_86_2, rr_88_2, rr_90_2, rr_92_0, rr_92_1, rr_92_5, rr_92_6, rr_92_8, rr_92_9, rr_92_12, rr_92_15, rr_92_16, rr_92_17, h2, hT.1, hc, t1, m_isSmall E t2, hd, nb1, Option.toList_some, List.cons_append, List.nil_append, ↓reduceIte, nI_add]
      refine ih (e + 1) _ (by omega) (MT_fr hT (by rw [u2_i (by omega)]) (by rw [u2_f (by omega)])) (u2_s _ _ _ _) (fun σ2 b c d => ?_)
      refine hk σ2 ?_ (frN_t (frN_v σ _) c) (by rw [d, u2_i (by omega)])
      rw [b]
      show _ = nI (if kd (T e) = 1 then rnF T 1 m (e + 1) else e)
      rw [if_pos h]
    · have hd : decide (kd (T e) = 1) = false := decide_eq_false h
      simp (disch := first | assumption | exact bz0 | exact bz1 | exact bzi | omega | decide +kernel) only [I_129_0, I_129_1, I_129_2, I_129_5, I_129_9, I_129_12, I_129_13, I_129_16, I_129_19, I_129_20, I_129_23, I_129_24, I_129_27, I_129_28, I_129_30, I_129_33, I_129_34, I_129_35, I_129_38, I_129_39, I_129_40, I_129_43, I_129_46, I_129_47, I_129_48, I_129_51, I_129_52, I_129_55, I_129_58, I_129_59, I_129_62, I_129_63, I_129_64, I_129_67, I_129_68, I_129_71, I_129_74, I_129_75, I_129_78, I_129_79, I_129_82, I_129_85, I_129_86, I_129_89, I_129_90, I_129_93, I_129_94, I_129_97, I_129_101, I_129_104, I_129_105, I_129_108, I_129_111, I_129_112, I_129_115, I_129_116, I_129_119, I_129_120, I_129_123, I_129_126, I_129_127, I_129_128, I_129_131, I_129_132, I_129_133, I_129_136, I_129_139, I_129_140, I_129_143, I_129_144, I_129_147, I_129_150, I_129_151, I_129_154, I_129_155, I_129_158, I_129_159, I_129_162, I_129_166, I_129_169, I_129_170, I_129_173, I_129_176, I_129_177, I_129_180, I_129_181, I_129_184, I_129_185, I_129_188, I_129_191, I_129_192, I_129_193, I_129_196, I_129_197, I_129_198, I_129_201, I_129_204, rr_0_0, rr_0_1, rr_0_2, rr_0_3, rr_0_4, rr_0_5, rr_0_6, rr_0_7, rr_0_8, rr_1_0, rr_1_1, rr_1_2, rr_1_3, rr_2_4, rr_2_5, rr_2_6, rr_2_7, rr_2_8, rr_13_0, rr_15_4, rr_15_5, rr_15_6, rr_15_7, rr_15_8, rr_21_4, rr_21_5, rr_21_6, rr_21_7, rr_21_8, rr_27_4, rr_27_5, rr_27_6, rr_27_7, rr_27_8, rr_33_4, rr_33_5, rr_33_6, rr_33_7, rr_33_8, rr_39_4, rr_39_5, rr_39_6, rr_39_7, rr_39_8, rr_45_4, rr_45_5, rr_45_6, rr_45_7, rr_45_8, rr_51_4, rr_51_5, rr_51_6, rr_51_7, rr_51_8, rr_57_4, rr_57_5, rr_57_6, rr_57_7, rr_57_8, rr_63_2, rr_63_3, rr_63_4, rr_63_5, rr_68_0, rr_70_1, rr_70_2, rr_74_4, rr_74_5, rr_74_6, rr_74_7, rr_74_8, rr_80_4, rr_80_5, rr_80_6, rr_80_7, rr_80_8, rr_86_2, rr_88_2, rr_90_2, rr_92_0, rr_92_1, rr_92_5, rr_92_6, rr_92_8, rr_92_9, rr_92_12, rr_92_15, rr_92_16, rr_92_17, h2, hT.1, hc, t1, m_isSmall E t2, hd, nb0, Option.toList_some, List.cons_append, List.nil_append, ↓reduceIte]
      refine hk σ ?_ ⟨fun _ _ => rfl, fun _ _ _ => rfl⟩ rfl
      rw [h2]
      show _ = nI (if kd (T e) = 1 then rnF T 1 m (e + 1) else e)
      rw [if_neg h]
theorem L_next3 (E : ip_E) {n : Nat} {T : Nat → Nat} (κ : Option Value → ip_G → Prop) : ∀ (m e : Nat) (σ : ip_G), e + m = n → MT σ n T → σ 92 11 = nI e → (∀ σ2, σ2 92 11 = nI (rnF T 2 m e) → frN σ σ2 → σ2 92 10 = σ 92 10 → κ none σ2) → wp E 129 165 [.ref 92] [] σ κ := by
  intro m
  induction m with
  | zero =>
    intro e σ he hT h2 hk
    have hn := hT.2.1
    have hc : nI n ≤ nI e := nI_le (by omega) (by omega)
    simp (disch := first | assumption | exact bz0 | exact bz1 | exact bzi | omega | decide +kernel) only [I_129_0, I_129_1, I_129_2, I_129_5, I_129_9, I_129_12, I_129_13, I_129_16, I_129_19, I_129_20, I_129_23, I_129_24, I_129_27, I_129_28, I_129_30, I_129_33, I_129_34, I_129_35, I_129_38, I_129_39, I_129_40, I_129_43, I_129_46, I_129_47, I_129_48, I_129_51, I_129_52, I_129_55, I_129_58, I_129_59, I_129_62, I_129_63, I_129_64, I_129_67, I_129_68, I_129_71, I_129_74, I_129_75, I_129_78, I_129_79, I_129_82, I_129_85, I_129_86, I_129_89, I_129_90, I_129_93, I_129_94, I_129_97, I_129_101, I_129_104, I_129_105, I_129_108, I_129_111, I_129_112, I_129_115, I_129_116, I_129_119, I_129_120, I_129_123, I_129_126, I_129_127, I_129_128, I_129_131, I_129_132, I_129_133, I_129_136, I_129_139, I_129_140, I_129_143, I_129_144, I_129_147, I_129_150, I_129_151, I_129_154, I_129_155, I_129_158, I_129_159, I_129_162, I_129_165, I_129_166, I_129_169, I_129_170, I_129_173, I_129_176, I_129_177, I_129_180, I_129_181, I_129_184, I_129_185, I_129_188, I_129_191, I_129_192, I_129_193, I_129_196, I_129_197, I_129_198, I_129_201, I_129_204, h2, hT.1, hc, ↓reduceIte]
    exact hk σ h2 ⟨fun _ _ => rfl, fun _ _ _ => rfl⟩ rfl
  | succ m ih =>
    intro e σ he hT h2 hk
    have hn := hT.2.1
    have hc : ¬ nI n ≤ nI e := nI_ge (by omega) (by omega)
    obtain ⟨t1, t2⟩ := hT.2.2 e (by omega)
    rw [I_129_165]
    by_cases h : kd (T e) = 2
    · have hd : decide (kd (T e) = 2) = true := decide_eq_true h
      simp (disch := first | assumption | exact bz0 | exact bz1 | exact bzi | omega | decide +kernel) only [I_129_0, I_129_1, I_129_2, I_129_5, I_129_9, I_129_12, I_129_13, I_129_16, I_129_19, I_129_20, I_129_23, I_129_24, I_129_27, I_129_28, I_129_30, I_129_33, I_129_34, I_129_35, I_129_38, I_129_39, I_129_40, I_129_43, I_129_46, I_129_47, I_129_48, I_129_51, I_129_52, I_129_55, I_129_58, I_129_59, I_129_62, I_129_63, I_129_64, I_129_67, I_129_68, I_129_71, I_129_74, I_129_75, I_129_78, I_129_79, I_129_82, I_129_85, I_129_86, I_129_89, I_129_90, I_129_93, I_129_94, I_129_97, I_129_101, I_129_104, I_129_105, I_129_108, I_129_111, I_129_112, I_129_115, I_129_116, I_129_119, I_129_120, I_129_123, I_129_126, I_129_127, I_129_128, I_129_131, I_129_132, I_129_133, I_129_136, I_129_139, I_129_140, I_129_143, I_129_144, I_129_147, I_129_150, I_129_151, I_129_154, I_129_155, I_129_158, I_129_159, I_129_162, I_129_166, I_129_169, I_129_170, I_129_173, I_129_176, I_129_177, I_129_180, I_129_181, I_129_184, I_129_185, I_129_188, I_129_191, I_129_192, I_129_193, I_129_196, I_129_197, I_129_198, I_129_201, I_129_204, rr_0_0, rr_0_1, rr_0_2, rr_0_3, rr_0_4, rr_0_5, rr_0_6, rr_0_7, rr_0_8, rr_1_0, rr_1_1, rr_1_2, rr_1_3, rr_2_4, rr_2_5, rr_2_6, rr_2_7, rr_2_8, rr_13_0, rr_15_4, rr_15_5, rr_15_6, rr_15_7, rr_15_8, rr_21_4, rr_21_5, rr_21_6, rr_21_7, rr_21_8, rr_27_4, rr_27_5, rr_27_6, rr_27_7, rr_27_8, rr_33_4, rr_33_5, rr_33_6, rr_33_7, rr_33_8, rr_39_4, rr_39_5, rr_39_6, rr_39_7, rr_39_8, rr_45_4, rr_45_5, rr_45_6, rr_45_7, rr_45_8, rr_51_4, rr_51_5, rr_51_6, rr_51_7, rr_51_8, rr_57_4, rr_57_5, rr_57_6, rr_57_7, rr_57_8, rr_63_2, rr_63_3, rr_63_4, rr_63_5, rr_68_0, rr_70_1, rr_70_2, rr_74_4, rr_74_5, rr_74_6, rr_74_7, rr_74_8, rr_80_4, rr_80_5, rr_80_6, rr_80_7, rr_80_8, rr_86_2, rr_88_2, rr_90_2, rr_92_0, rr_92_1, rr_92_5, rr_92_6, rr_92_8, rr_92_9, rr_92_12, rr_92_15, rr_92_16, rr_92_17, h2, hT.1, hc, t1, m_isDigit E t2, hd, nb1, Option.toList_some, List.cons_append, List.nil_append, ↓reduceIte, nI_add]
      refine ih (e + 1) _ (by omega) (MT_fr hT (by rw [u2_i (by omega)]) (by rw [u2_f (by omega)])) (u2_s _ _ _ _) (fun σ2 b c d => ?_)
      refine hk σ2 ?_ (frN_t (frN_v σ _) c) (by rw [d, u2_i (by omega)])
      rw [b]
      show _ = nI (if kd (T e) = 2 then rnF T 2 m (e + 1) else e)
      rw [if_pos h]
    · have hd : decide (kd (T e) = 2) = false := decide_eq_false h
      simp (disch := first | assumption | exact bz0 | exact bz1 | exact bzi | omega | decide +kernel) only [I_129_0, I_129_1, I_129_2, I_129_5, I_129_9, I_129_12, I_129_13, I_129_16, I_129_19, I_129_20, I_129_23, I_129_24, I_129_27, I_129_28, I_129_30, I_129_33, I_129_34, I_129_35, I_129_38, I_129_39, I_129_40, I_129_43, I_129_46, I_129_47, I_129_48, I_129_51, I_129_52, I_129_55, I_129_58, I_129_59, I_129_62, I_129_63, I_129_64, I_129_67, I_129_68, I_129_71, I_129_74, I_129_75, I_129_78, I_129_79, I_129_82, I_129_85, I_129_86, I_129_89, I_129_90, I_129_93, I_129_94, I_129_97, I_129_101, I_129_104, I_129_105, I_129_108, I_129_111, I_129_112, I_129_115, I_129_116, I_129_119, I_129_120, I_129_123, I_129_126, I_129_127, I_129_128, I_129_131, I_129_132, I_129_133, I_129_136, I_129_139, I_129_140, I_129_143, I_129_144, I_129_147, I_129_150, I_129_151, I_129_154, I_129_155, I_129_158, I_129_159, I_129_162, I_129_166, I_129_169, I_129_170, I_129_173, I_129_176, I_129_177, I_129_180, I_129_181, I_129_184, I_129_185, I_129_188, I_129_191, I_129_192, I_129_193, I_129_196, I_129_197, I_129_198, I_129_201, I_129_204, rr_0_0, rr_0_1, rr_0_2, rr_0_3, rr_0_4, rr_0_5, rr_0_6, rr_0_7, rr_0_8, rr_1_0, rr_1_1, rr_1_2, rr_1_3, rr_2_4, rr_2_5, rr_2_6, rr_2_7, rr_2_8, rr_13_0, rr_15_4, rr_15_5, rr_15_6, rr_15_7, rr_15_8, rr_21_4, rr_21_5, rr_21_6, rr_21_7, rr_21_8, rr_27_4, rr_27_5, rr_27_6, rr_27_7, rr_27_8, rr_33_4, rr_33_5, rr_33_6, rr_33_7, rr_33_8, rr_39_4, rr_39_5, rr_39_6, rr_39_7, rr_39_8, rr_45_4, rr_45_5, rr_45_6, rr_45_7, rr_45_8, rr_51_4, rr_51_5, rr_51_6, rr_51_7, rr_51_8, rr_57_4, rr_57_5, rr_57_6, rr_57_7, rr_57_8, rr_63_2, rr_63_3, rr_63_4, rr_63_5, rr_68_0, rr_70_1, rr_70_2, rr_74_4, rr_74_5, rr_74_6, rr_74_7, rr_74_8, rr_80_4, rr_80_5, rr_80_6, rr_80_7, rr_80_8, rr_86_2, rr_88_2, rr_90_2, rr_92_0, rr_92_1, rr_92_5, rr_92_6, rr_92_8, rr_92_9, rr_92_12, rr_92_15, rr_92_16, rr_92_17, h2, hT.1, hc, t1, m_isDigit E t2, hd, nb0, Option.toList_some, List.cons_append, List.nil_append, ↓reduceIte]
      refine hk σ ?_ ⟨fun _ _ => rfl, fun _ _ _ => rfl⟩ rfl
      rw [h2]
      show _ = nI (if kd (T e) = 2 then rnF T 2 m (e + 1) else e)
      rw [if_neg h]
/-- the token that is looked for from place p on is here -/
def MX (σ : ip_G) (n : Nat) (T : Nat → Nat) (p : Nat) : Prop := MT σ n T ∧ σ 92 10 = nI (ts n T p) ∧ σ 92 11 = nI (te n T p) ∧ p ≤ n
theorem MX_fr {σ σ' : ip_G} {n : Nat} {T : Nat → Nat} {p : Nat} (h : MX σ n T p) (h1 : σ' 92 7 = σ 92 7) (h2 : σ' 96 = σ 96) (h3 : σ' 92 10 = σ 92 10) (h4 : σ' 92 11 = σ 92 11) : MX σ' n T p := ⟨MT_fr h.1 h1 h2, by rw [h3]; exact h.2.1, by rw [h4]; exact h.2.2.1, h.2.2.2⟩
theorem m_nextToken (E : ip_E) {σ : ip_G} {n : Nat} {T : Nat → Nat} {p : Nat} (hT : MT σ n T) (hp : σ 92 11 = nI p) (hpn : p ≤ n) (κ : Option Value → ip_G → Prop) (hk : ∀ σ', MX σ' n T p → frN σ σ' → κ none σ') : wp E 129 0 [.ref 92] [] σ κ := by
  simp (disch := first | assumption | exact bz0 | exact bz1 | exact bzi | omega | decide +kernel) only [I_129_0, I_129_1, I_129_2, I_129_5, I_129_9, I_129_12, I_129_13, I_129_16, I_129_19, I_129_20, I_129_23, I_129_24, I_129_27, I_129_28, I_129_30, I_129_33, I_129_34, I_129_35, I_129_38, I_129_39, I_129_40, I_129_43, I_129_46, I_129_47, I_129_48, I_129_51, I_129_52, I_129_55, I_129_58, I_129_59, I_129_62, I_129_63, I_129_64, I_129_67, I_129_68, I_129_71, I_129_74, I_129_75, I_129_78, I_129_79, I_129_82, I_129_85, I_129_86, I_129_89, I_129_90, I_129_93, I_129_94, I_129_97, I_129_100, I_129_101, I_129_104, I_129_105, I_129_108, I_129_111, I_129_112, I_129_115, I_129_116, I_129_119, I_129_120, I_129_123, I_129_126, I_129_127, I_129_128, I_129_131, I_129_132, I_129_133, I_129_136, I_129_139, I_129_140, I_129_143, I_129_144, I_129_147, I_129_150, I_129_151, I_129_154, I_129_155, I_129_158, I_129_159, I_129_162, I_129_165, I_129_166, I_129_169, I_129_170, I_129_173, I_129_176, I_129_177, I_129_180, I_129_181, I_129_184, I_129_185, I_129_188, I_129_191, I_129_192, I_129_193, I_129_196, I_129_197, I_129_198, I_129_201, I_129_204, hp]
  refine L_next1 E κ (n - p) p _ (by omega) (MT_fr hT (by rw [u2_i (by omega)]) (by rw [u2_f (by omega)])) (u2_s _ _ _ _) (fun σ2 a b c => ?_)
  have b' : σ2 92 10 = nI (ts n T p) := b
  have c' := frN_t (frN_u σ _) c
  have sl := skS_le (T := T) hpn
  have hn := a.2.1
  have hte : te n T p = enS n T (ts n T p) := rfl
  have hts : ts n T p ≤ n := sl.2
  unfold MX at hk
  rw [hte] at hk
  generalize ts n T p = s at *
  by_cases h : s < n
  · have hc : ¬ nI n ≤ nI s := nI_ge (by omega) (by omega)
    obtain ⟨t1, t2⟩ := a.2.2 s h
    have kv := kd_v (T s)
    have a3 : MT (ip_u2 σ2 92 11 (nI (s + 1))) n T := MT_fr a (by rw [u2_i (by omega)]) (by rw [u2_f (by omega)])
    have c3 := frN_t c' (frN_v σ2 (nI (s + 1)))
    have b3 : (ip_u2 σ2 92 11 (nI (s + 1))) 92 10 = nI s := by rw [u2_i (by omega)]; exact b'
    simp (disch := first | assumption | exact bz0 | exact bz1 | exact bzi | omega | decide +kernel) only [I_129_0, I_129_1, I_129_2, I_129_5, I_129_8, I_129_9, I_129_12, I_129_13, I_129_16, I_129_19, I_129_20, I_129_23, I_129_24, I_129_27, I_129_28, I_129_30, I_129_33, I_129_34, I_129_35, I_129_38, I_129_39, I_129_40, I_129_43, I_129_46, I_129_47, I_129_48, I_129_51, I_129_52, I_129_55, I_129_58, I_129_59, I_129_62, I_129_63, I_129_64, I_129_67, I_129_68, I_129_71, I_129_74, I_129_75, I_129_78, I_129_79, I_129_82, I_129_85, I_129_86, I_129_89, I_129_90, I_129_93, I_129_94, I_129_97, I_129_101, I_129_104, I_129_105, I_129_108, I_129_111, I_129_112, I_129_115, I_129_116, I_129_119, I_129_120, I_129_123, I_129_126, I_129_127, I_129_128, I_129_131, I_129_132, I_129_133, I_129_136, I_129_139, I_129_140, I_129_143, I_129_144, I_129_147, I_129_150, I_129_151, I_129_154, I_129_155, I_129_158, I_129_159, I_129_162, I_129_166, I_129_169, I_129_170, I_129_173, I_129_176, I_129_177, I_129_180, I_129_181, I_129_184, I_129_185, I_129_188, I_129_191, I_129_192, I_129_193, I_129_196, I_129_197, I_129_198, I_129_201, I_129_204, rr_0_0, rr_0_1, rr_0_2, rr_0_3, rr_0_4, rr_0_5, rr_0_6, rr_0_7, rr_0_8, rr_1_0, rr_1_1, rr_1_2, rr_1_3, rr_2_4, rr_2_5, rr_2_6, rr_2_7, rr_2_8, rr_13_0, rr_15_4, rr_15_5, rr_15_6, rr_15_7, rr_15_8, rr_21_4, rr_21_5, rr_21_6, rr_21_7, rr_21_8, rr_27_4, rr_27_5, rr_27_6, rr_27_7, rr_27_8, rr_33_4, rr_33_5, rr_33_6, rr_33_7, rr_33_8, rr_39_4, rr_39_5, rr_39_6, rr_39_7, rr_39_8, rr_45_4, rr_45_5, rr_45_6, rr_45_7, rr_45_8, rr_51_4, rr_51_5, rr_51_6, rr_51_7, rr_51_8, rr_57_4, rr_57_5, rr_57_6, rr_57_7, rr_57_8, rr_63_2, rr_63_3, rr_63_4, rr_63_5, rr_68_0, rr_70_1, rr_70_2, rr_74_4, rr_74_5, rr_74_6, rr_74_7, rr_74_8, rr_80_4, rr_80_5, rr_80_6, rr_80_7, rr_80_8, rr_86_2, rr_88_2, rr_90_2, rr_92_0, rr_92_1, rr_92_5, rr_92_6, rr_92_8, rr_92_9, rr_92_12, rr_92_15, rr_92_16, rr_92_17, b', a.1, hc, ↓reduceIte, nI_add, u2_i, u2_k, t1, m_isSmall E t2, m_isDigit E t2, Option.toList_some, List.cons_append, List.nil_append]
    by_cases h1 : kd (T s) = 1
    · have hd : decide (kd (T s) = 1) = true := decide_eq_true h1
      have he : enS n T s = rnF T 1 (n - (s + 1)) (s + 1) := by unfold enS; rw [if_pos h, if_neg (by omega), h1]
      simp (disch := first | assumption | exact bz0 | exact bz1 | exact bzi | omega | decide +kernel) only [hd, nb1, ↓reduceIte]
      refine L_next2 E κ (n - (s + 1)) (s + 1) _ (by omega) a3 (u2_s _ _ _ _) (fun σ3 d1 d2 d3 => hk σ3 ⟨MT_fr a3 (by rw [d2.2 7 (by omega) (by omega)]) (by rw [d2.1 96 (by omega)]), by rw [d3]; exact b3, by rw [d1, he], hpn⟩ (frN_t c3 d2))
    · have hd : decide (kd (T s) = 1) = false := decide_eq_false h1
      by_cases h2 : kd (T s) = 2
      · have hd2 : decide (kd (T s) = 2) = true := decide_eq_true h2
        have he : enS n T s = rnF T 2 (n - (s + 1)) (s + 1) := by unfold enS; rw [if_pos h, if_neg (by omega), h2]
        simp (disch := first | assumption | exact bz0 | exact bz1 | exact bzi | omega | decide +kernel) only [hd, hd2, nb0, nb1, ↓reduceIte]
        refine L_next3 E κ (n - (s + 1)) (s + 1) _ (by omega) a3 (u2_s _ _ _ _) (fun σ3 d1 d2 d3 => hk σ3 ⟨MT_fr a3 (by rw [d2.2 7 (by omega) (by omega)]) (by rw [d2.1 96 (by omega)]), by rw [d3]; exact b3, by rw [d1, he], hpn⟩ (frN_t c3 d2))
      · have hd2 : decide (kd (T s) = 2) = false := decide_eq_false h2
        have he : enS n T s = s + 1 := by unfold enS; rw [if_pos h, if_pos (by omega)]
        simp (disch := first | assumption | exact bz0 | exact bz1 | exact bzi | omega | decide +kernel) only [hd, hd2, nb0, ↓reduceIte]
        exact hk _ ⟨a3, b3, by rw [u2_s, he], hpn⟩ c3
  · have hc : nI n ≤ nI s := nI_le (by omega) (by omega)
    have he : enS n T s = s := if_neg h
    simp (disch := first | assumption | exact bz0 | exact bz1 | exact bzi | omega | decide +kernel) only [I_129_0, I_129_1, I_129_2, I_129_5, I_129_8, I_129_9, I_129_12, I_129_13, I_129_16, I_129_19, I_129_20, I_129_23, I_129_24, I_129_27, I_129_28, I_129_30, I_129_33, I_129_34, I_129_35, I_129_38, I_129_39, I_129_40, I_129_43, I_129_46, I_129_47, I_129_48, I_129_51, I_129_52, I_129_55, I_129_58, I_129_59, I_129_62, I_129_63, I_129_64, I_129_67, I_129_68, I_129_71, I_129_74, I_129_75, I_129_78, I_129_79, I_129_82, I_129_85, I_129_86, I_129_89, I_129_90, I_129_93, I_129_94, I_129_97, I_129_101, I_129_104, I_129_105, I_129_108, I_129_111, I_129_112, I_129_115, I_129_116, I_129_119, I_129_120, I_129_123, I_129_126, I_129_127, I_129_128, I_129_131, I_129_132, I_129_133, I_129_136, I_129_139, I_129_140, I_129_143, I_129_144, I_129_147, I_129_150, I_129_151, I_129_154, I_129_155, I_129_158, I_129_159, I_129_162, I_129_166, I_129_169, I_129_170, I_129_173, I_129_176, I_129_177, I_129_180, I_129_181, I_129_184, I_129_185, I_129_188, I_129_191, I_129_192, I_129_193, I_129_196, I_129_197, I_129_198, I_129_201, I_129_204, rr_0_0, rr_0_1, rr_0_2, rr_0_3, rr_0_4, rr_0_5, rr_0_6, rr_0_7, rr_0_8, rr_1_0, rr_1_1, rr_1_2, rr_1_3, rr_2_4, rr_2_5, rr_2_6, rr_2_7, rr_2_8, rr_13_0, rr_15_4, rr_15_5, rr_15_6, rr_15_7, rr_15_8, rr_21_4, rr_21_5, rr_21_6, rr_21_7, rr_21_8, rr_27_4, rr_27_5, rr_27_6, rr_27_7, rr_27_8, rr_33_4, rr_33_5, rr_33_6, rr_33_7, rr_33_8, rr_39_4, rr_39_5, rr_39_6, rr_39_7, rr_39_8, rr_45_4, rr_45_5, rr_45_6, rr_45_7, rr_45_8, rr_51_4, rr_51_5, rr_51_6, rr_51_7, rr_51_8, rr_57_4, rr_57_5, rr_57_6, rr_57_7, rr_57_8, rr_63_2, rr_63_3, rr_63_4, rr_63_5, rr_68_0, rr_70_1, rr_70_2, rr_74_4, rr_74_5, rr_74_6, rr_74_7, rr_74_8, rr_80_4, rr_80_5, rr_80_6, rr_80_7, rr_80_8, rr_86_2, rr_88_2, rr_90_2, rr_92_0, rr_92_1, rr_92_5, rr_92_6, rr_92_8, rr_92_9, rr_92_12, rr_92_15, rr_92_16, rr_92_17, b', a.1, hc, ↓reduceIte, u2_i]
    exact hk _ ⟨MT_fr a (by rw [u2_i (by omega)]) (by rw [u2_f (by omega)]), by rw [u2_i (by omega)]; exact b', by rw [u2_s, he], hpn⟩ (frN_t c' (frN_v σ2 _))
/-! words -/
def wv (w k : Nat) : Nat := if k < wl w then wc w k else 0
def MW (σ : ip_G) : Prop := ∀ w, w < 8 → ∀ k, k < 5 → σ 101 (5 * w + k) = nI (wv w k)
def tz (T : Nat → Nat) (s e k : Nat) : Nat := if s + k < e then T (s + k) else 0
def miF (T : Nat → Nat) (s e w : Nat) : Nat → Nat → Bool → Bool
  | 0, _, b => b
  | m + 1, k, b => if b = true then miF T s e w m (k + 1) (decide (wv w k = tz T s e k)) else false
theorem miF_f (T : Nat → Nat) (s e w : Nat) : ∀ m k, miF T s e w m k false = false
  | 0, _ => rfl
  | _ + 1, _ => rfl
theorem miF_t (T : Nat → Nat) (s e w : Nat) : ∀ m k, miF T s e w m k true = true ↔ ∀ j, k ≤ j → j < k + m → wv w j = tz T s e j
  | 0, k => ⟨fun _ j h1 h2 => by omega, fun _ => rfl⟩
  | m + 1, k => by
    have e1 : miF T s e w (m + 1) k true = miF T s e w m (k + 1) (decide (wv w k = tz T s e k)) := rfl
    rw [e1]
    by_cases h : wv w k = tz T s e k
    · rw [decide_eq_true h, miF_t T s e w m (k + 1)]
      refine ⟨fun g j h1 h2 => ?_, fun g j h1 h2 => g j (by omega) (by omega)⟩
      by_cases e : j = k
      · rw [e]; exact h
      · exact g j (by omega) (by omega)
    · rw [decide_eq_false h, miF_f]
      exact ⟨fun z => (by cases z), fun g => absurd (g k (Nat.le_refl _) (by omega)) h⟩
theorem lwF_t (T : Nat → Nat) (w s : Nat) : ∀ m k, lwF T w s m k = true ↔ ∀ j, k ≤ j → j < k + m → T (s + j) = wc w j
  | 0, k => ⟨fun _ j h1 h2 => by omega, fun _ => rfl⟩
  | m + 1, k => by
    unfold lwF
    by_cases h : T (s + k) = wc w k
    · rw [if_pos h, lwF_t T w s m (k + 1)]
      refine ⟨fun g j h1 h2 => ?_, fun g j h1 h2 => g j (by omega) (by omega)⟩
      by_cases e : j = k
      · rw [e]; exact h
      · exact g j (by omega) (by omega)
    · rw [if_neg h]
      exact ⟨fun z => (by cases z), fun g => absurd (g k (Nat.le_refl _) (by omega)) h⟩
theorem wd_mi {n : Nat} {T : Nat → Nat} {s w : Nat} (hs : s ≤ n) (hw : w < 8) : miF T s (enS n T s) w 5 0 (decide (s < enS n T s ∧ enS n T s - s < 6)) = wdB n T s (enS n T s) w := by
  have hle := enS_le (T := T) hs
  have w5 := wl_le w hw
  have wcv : ∀ k, k < wl w → 97 ≤ wc w k := fun k hk => (wc_ch w hw k hk).2.2.1
  have wcu : ∀ k, k < wl w → wc w k ≤ 122 := fun k hk => (wc_ch w hw k hk).2.2.2
  rw [Bool.eq_iff_iff]
  have hkd : ∀ i, s ≤ i → i < enS n T s → kd (T i) = kd (T s) := fun i h1 h2 => enS_kd h1 h2
  have hlt : s < enS n T s → s < n := fun z => by
    rcases Nat.lt_or_ge s n with h | h
    · exact h
    · rw [enS_ge h] at z; omega
  generalize enS n T s = e at *
  by_cases h0 : s < e ∧ e - s < 6
  · rw [decide_eq_true h0, miF_t]
    constructor
    · intro g
      have g0 := g 0 (by omega) (by omega)
      unfold wv tz at g0
      rw [if_pos (by omega), if_pos (by omega)] at g0
      have k1 : kd (T s) = 1 := kd_1.mpr (by have := wcv 0 (by omega); have := wcu 0 (by omega); rw [Nat.add_zero] at g0; omega)
      have hsn := hlt h0.1
      have htk : tk n T s = 1 := by unfold tk; rw [if_pos hsn]; exact k1
      have hlen : e - s = wl w := by
        rcases Nat.lt_trichotomy (e - s) (wl w) with hh | hh | hh
        · have g1 := g (e - s) (by omega) (by omega)
          unfold wv tz at g1
          rw [if_pos hh, if_neg (by omega)] at g1
          have := wcv _ hh
          omega
        · exact hh
        · have g1 := g (wl w) (by omega) (by omega)
          unfold wv tz at g1
          rw [if_neg (by omega), if_pos (by omega)] at g1
          have := kd_1.mp ((hkd (s + wl w) (by omega) (by omega)).trans k1)
          omega
      unfold wdB
      rw [if_pos ⟨htk, hlen⟩, lwF_t]
      intro j h1 h2
      have g1 := g j (by omega) (by omega)
      unfold wv tz at g1
      rw [if_pos (by omega), if_pos (by omega)] at g1
      exact g1.symm
    · intro g
      unfold wdB at g
      split at g
      · next hc =>
        rw [lwF_t] at g
        intro j h1 h2
        unfold wv tz
        by_cases hj : j < wl w
        · rw [if_pos hj, if_pos (by omega)]
          exact (g j (by omega) (by omega)).symm
        · rw [if_neg hj, if_neg (by omega)]
      · cases g
  · rw [decide_eq_false h0, miF_f]
    refine ⟨fun z => (by cases z), fun g => ?_⟩
    unfold wdB at g
    split at g
    · next hc => exact absurd (show s < e ∧ e - s < 6 by omega) h0
    · cases g
theorem L_word1 (E : ip_E) {σ : ip_G} {n : Nat} {T : Nat → Nat} {s e w : Nat} (hT : MT σ n T) (h10 : σ 92 10 = nI s) (h11 : σ 92 11 = nI e) (hse : s ≤ e) (hen : e ≤ n) (hW : MW σ) (hw : w < 8) (κ : Option Value → ip_G → Prop) : ∀ (m k : Nat) (b : Bool), k + m = 5 → (∀ v, wp E 133 103 [.ref 92, .int (nI w), .int (nI (b2n (miF T s e w m k b))), .int v] [] σ κ) → wp E 133 41 [.ref 92, .int (nI w), .int (nI (b2n b)), .int (nI k)] [] σ κ := by
  have hn := hT.2.1
  intro m
  induction m with
  | zero =>
    intro k b hk hz
    have hc : nI 5 ≤ nI k := nI_le (by omega) (by omega)
    simp (disch := first | assumption | exact bz0 | exact bz1 | exact bzi | omega | decide +kernel) only [I_133_0, I_133_1, I_133_3, I_133_5, I_133_8, I_133_9, I_133_12, I_133_13, I_133_16, I_133_19, I_133_20, I_133_23, I_133_24, I_133_27, I_133_28, I_133_30, I_133_33, I_133_34, I_133_37, I_133_38, I_133_39, I_133_40, I_133_41, I_133_42, I_133_43, I_133_46, I_133_47, I_133_50, I_133_51, I_133_54, I_133_55, I_133_56, I_133_57, I_133_58, I_133_59, I_133_60, I_133_61, I_133_64, I_133_65, I_133_66, I_133_67, I_133_70, I_133_73, I_133_74, I_133_77, I_133_78, I_133_81, I_133_82, I_133_83, I_133_84, I_133_87, I_133_88, I_133_91, I_133_92, I_133_95, I_133_96, I_133_97, I_133_100, I_133_104, I_133_107, I_133_108, I_133_109, I_133_112, I_133_115, I_133_116, hc, ↓reduceIte]
    exact hz _
  | succ m ih =>
    intro k b hk hz
    have hc : ¬ nI 5 ≤ nI k := nI_ge (by omega) (by omega)
    rw [I_133_41]
    cases b with
    | false =>
      simp (disch := first | assumption | exact bz0 | exact bz1 | exact bzi | omega | decide +kernel) only [I_133_0, I_133_1, I_133_3, I_133_5, I_133_8, I_133_9, I_133_12, I_133_13, I_133_16, I_133_19, I_133_20, I_133_23, I_133_24, I_133_27, I_133_28, I_133_30, I_133_33, I_133_34, I_133_37, I_133_38, I_133_39, I_133_40, I_133_42, I_133_43, I_133_46, I_133_47, I_133_50, I_133_51, I_133_54, I_133_55, I_133_56, I_133_57, I_133_58, I_133_59, I_133_60, I_133_61, I_133_64, I_133_65, I_133_66, I_133_67, I_133_70, I_133_73, I_133_74, I_133_77, I_133_78, I_133_81, I_133_82, I_133_83, I_133_84, I_133_87, I_133_88, I_133_91, I_133_92, I_133_95, I_133_96, I_133_97, I_133_100, I_133_104, I_133_107, I_133_108, I_133_109, I_133_112, I_133_115, I_133_116, hc, nb0, ↓reduceIte]
      have := hz (nI k)
      rw [miF_f] at this
      exact this
    | true =>
      have hwv := hW w hw k (by omega)
      have hb1 : wv w k < 256 := by
        unfold wv
        split
        · next h => have := (wc_ch w hw k h).2.2; omega
        · omega
      have fin : wp E 133 97 [.ref 92, .int (nI w), .int (nI (b2n (decide (wv w k = tz T s e k)))), .int (nI k)] [] σ κ := by
        simp (disch := first | assumption | exact bz0 | exact bz1 | exact bzi | omega | decide +kernel) only [I_133_0, I_133_1, I_133_3, I_133_5, I_133_8, I_133_9, I_133_12, I_133_13, I_133_16, I_133_19, I_133_20, I_133_23, I_133_24, I_133_27, I_133_28, I_133_30, I_133_33, I_133_34, I_133_37, I_133_38, I_133_39, I_133_40, I_133_42, I_133_43, I_133_46, I_133_47, I_133_50, I_133_51, I_133_54, I_133_55, I_133_56, I_133_57, I_133_58, I_133_59, I_133_60, I_133_61, I_133_64, I_133_65, I_133_66, I_133_67, I_133_70, I_133_73, I_133_74, I_133_77, I_133_78, I_133_81, I_133_82, I_133_83, I_133_84, I_133_87, I_133_88, I_133_91, I_133_92, I_133_95, I_133_96, I_133_97, I_133_100, I_133_104, I_133_107, I_133_108, I_133_109, I_133_112, I_133_115, I_133_116, nI_add]
        exact ih (k + 1) _ (by omega) (fun v => hz v)
      by_cases hlt : s + k < e
      · have q : ¬ nI e ≤ nI (s + k) := nI_ge (by omega) (by omega)
        obtain ⟨t1, t2⟩ := hT.2.2 (s + k) (by omega)
        have htz : tz T s e k = T (s + k) := if_pos hlt
        rw [htz] at fin
        by_cases he : wv w k = T (s + k)
        · have q2 : nI (wv w k) = nI (T (s + k)) := by rw [he]
          rw [decide_eq_true he] at fin
          simp (disch := first | assumption | exact bz0 | exact bz1 | exact bzi | omega | decide +kernel) only [I_133_0, I_133_1, I_133_3, I_133_5, I_133_8, I_133_9, I_133_12, I_133_13, I_133_16, I_133_19, I_133_20, I_133_23, I_133_24, I_133_27, I_133_28, I_133_30, I_133_33, I_133_34, I_133_37, I_133_38, I_133_39, I_133_40, I_133_42, I_133_43, I_133_46, I_133_47, I_133_50, I_133_51, I_133_54, I_133_55, I_133_56, I_133_57, I_133_58, I_133_59, I_133_60, I_133_61, I_133_64, I_133_65, I_133_66, I_133_67, I_133_70, I_133_73, I_133_74, I_133_77, I_133_78, I_133_81, I_133_82, I_133_83, I_133_84, I_133_87, I_133_88, I_133_91, I_133_92, I_133_95, I_133_96, I_133_100, I_133_104, I_133_107, I_133_108, I_133_109, I_133_112, I_133_115, I_133_116, rr_0_0, rr_0_1, rr_0_2, rr_0_3, rr_0_4, rr_0_5, rr_0_6, rr_0_7, rr_0_8, rr_1_0, rr_1_1, rr_1_2, rr_1_3, rr_2_4, rr_2_5, rr_2_6, rr_2_7, rr_2_8, rr_13_0, rr_15_4, rr_15_5, rr_15_6, rr_15_7, rr_15_8, rr_21_4, rr_21_5, rr_21_6, rr_21_7, rr_21_8, rr_27_4, rr_27_5, rr_27_6, rr_27_7, rr_27_8, rr_33_4, rr_33_5, rr_33_6, rr_33_7, rr_33_8, rr_39_4, rr_39_5, rr_39_6, rr_39_7, rr_39_8, rr_45_4, rr_45_5, rr_45_6, rr_45_7, rr_45_8, rr_51_4, rr_51_5, rr_51_6, rr_51_7, rr_51_8, rr_57_4, rr_57_5, rr_57_6, rr_57_7, rr_57_8, rr_63_2, rr_63_3, rr_63_4, rr_63_5, rr_68_0, rr_70_1, rr_70_2, rr_74_4, rr_74_5, rr_74_6, rr_74_7, rr_74_8, rr_80_4, rr_80_5, rr_80_6, rr_80_7, rr_80_8, rr_86_2, rr_88_2, rr_90_2, rr_92_0, rr_92_1, rr_92_5, rr_92_6, rr_92_8, rr_92_9, rr_92_12, rr_92_15, rr_92_16, rr_92_17, hc, nb1, ↓reduceIte, pk_mul, nI_add, hwv, h10, h11, q, t1, q2, not_true_eq_false]
          exact fin
        · have q2 : ¬ nI (wv w k) = nI (T (s + k)) := fun z => he ((nI_eq (by omega) (by omega)).mp z)
          rw [decide_eq_false he] at fin
          simp (disch := first | assumption | exact bz0 | exact bz1 | exact bzi | omega | decide +kernel) only [I_133_0, I_133_1, I_133_3, I_133_5, I_133_8, I_133_9, I_133_12, I_133_13, I_133_16, I_133_19, I_133_20, I_133_23, I_133_24, I_133_27, I_133_28, I_133_30, I_133_33, I_133_34, I_133_37, I_133_38, I_133_39, I_133_40, I_133_42, I_133_43, I_133_46, I_133_47, I_133_50, I_133_51, I_133_54, I_133_55, I_133_56, I_133_57, I_133_58, I_133_59, I_133_60, I_133_61, I_133_64, I_133_65, I_133_66, I_133_67, I_133_70, I_133_73, I_133_74, I_133_77, I_133_78, I_133_81, I_133_82, I_133_83, I_133_84, I_133_87, I_133_88, I_133_91, I_133_92, I_133_95, I_133_96, I_133_100, I_133_104, I_133_107, I_133_108, I_133_109, I_133_112, I_133_115, I_133_116, rr_0_0, rr_0_1, rr_0_2, rr_0_3, rr_0_4, rr_0_5, rr_0_6, rr_0_7, rr_0_8, rr_1_0, rr_1_1, rr_1_2, rr_1_3, rr_2_4, rr_2_5, rr_2_6, rr_2_7, rr_2_8, rr_13_0, rr_15_4, rr_15_5, rr_15_6, rr_15_7, rr_15_8, rr_21_4, rr_21_5, rr_21_6, rr_21_7, rr_21_8, rr_27_4, rr_27_5, rr_27_6, rr_27_7, rr_27_8, rr_33_4, rr_33_5, rr_33_6, rr_33_7, rr_33_8, rr_39_4, rr_39_5, rr_39_6, rr_39_7, rr_39_8, rr_45_4, rr_45_5, rr_45_6, rr_45_7, rr_45_8, rr_51_4, rr_51_5, rr_51_6, rr_51_7, rr_51_8, rr_57_4, rr_57_5, rr_57_6, rr_57_7, rr_57_8, rr_63_2, rr_63_3, rr_63_4, rr_63_5, rr_68_0, rr_70_1, rr_70_2, rr_74_4, rr_74_5, rr_74_6, rr_74_7, rr_74_8, rr_80_4, rr_80_5, rr_80_6, rr_80_7, rr_80_8, rr_86_2, rr_88_2, rr_90_2, rr_92_0, rr_92_1, rr_92_5, rr_92_6, rr_92_8, rr_92_9, rr_92_12, rr_92_15, rr_92_16, rr_92_17, hc, nb1, ↓reduceIte, pk_mul, nI_add, hwv, h10, h11, q, t1, q2, not_false_eq_true]
          exact fin
      · have q : nI e ≤ nI (s + k) := nI_le (by omega) (by omega)
        have htz : tz T s e k = 0 := if_neg hlt
        rw [htz] at fin
        by_cases he : wv w k = 0
        · have q2 : nI (wv w k) = nI 0 := by rw [he]
          rw [decide_eq_true he] at fin
          simp (disch := first | assumption | exact bz0 | exact bz1 | exact bzi | omega | decide +kernel) only [I_133_0, I_133_1, I_133_3, I_133_5, I_133_8, I_133_9, I_133_12, I_133_13, I_133_16, I_133_19, I_133_20, I_133_23, I_133_24, I_133_27, I_133_28, I_133_30, I_133_33, I_133_34, I_133_37, I_133_38, I_133_39, I_133_40, I_133_42, I_133_43, I_133_46, I_133_47, I_133_50, I_133_51, I_133_54, I_133_55, I_133_56, I_133_57, I_133_58, I_133_59, I_133_60, I_133_61, I_133_64, I_133_65, I_133_66, I_133_67, I_133_70, I_133_73, I_133_74, I_133_77, I_133_78, I_133_81, I_133_82, I_133_83, I_133_84, I_133_87, I_133_88, I_133_91, I_133_92, I_133_95, I_133_96, I_133_100, I_133_104, I_133_107, I_133_108, I_133_109, I_133_112, I_133_115, I_133_116, rr_0_0, rr_0_1, rr_0_2, rr_0_3, rr_0_4, rr_0_5, rr_0_6, rr_0_7, rr_0_8, rr_1_0, rr_1_1, rr_1_2, rr_1_3, rr_2_4, rr_2_5, rr_2_6, rr_2_7, rr_2_8, rr_13_0, rr_15_4, rr_15_5, rr_15_6, rr_15_7, rr_15_8, rr_21_4, rr_21_5, rr_21_6, rr_21_7, rr_21_8, rr_27_4, rr_27_5, rr_27_6, rr_27_7, rr_27_8, rr_33_4, rr_33_5, rr_33_6, rr_33_7, rr_33_8, rr_39_4, rr_39_5, rr_39_6, rr_39_7, rr_39_8, rr_45_4, rr_45_5, rr_45_6, rr_45_7, rr_45_8, rr_51_4, rr_51_5, rr_51_6, rr_51_7, rr_51_8, rr_57_4, rr_57_5, rr_57_6, rr_57_7, rr_57_8, rr_63_2, rr_63_3, rr_63_4, rr_63_5, rr_68_0, rr_70_1, rr_70_2, rr_74_4, rr_74_5, rr_74_6, rr_74_7, rr_74_8, rr_80_4, rr_80_5, rr_80_6, rr_80_7, rr_80_8, rr_86_2, rr_88_2, rr_90_2, rr_92_0, rr_92_1, rr_92_5, rr_92_6, rr_92_8, rr_92_9, rr_92_12, rr_92_15, rr_92_16, rr_92_17, hc, nb1, ↓reduceIte, pk_mul, nI_add, hwv, h10, h11, q, q2, not_true_eq_false]
          exact fin
        · have q2 : ¬ nI (wv w k) = nI 0 := fun z => he ((nI_eq (by omega) (by omega)).mp z)
          rw [decide_eq_false he] at fin
          simp (disch := first | assumption | exact bz0 | exact bz1 | exact bzi | omega | decide +kernel) only [I_133_0, I_133_1, I_133_3, I_133_5, I_133_8, I_133_9, I_133_12, I_133_13, I_133_16, I_133_19, I_133_20, I_133_23, I_133_24, I_133_27, I_133_28, I_133_30, I_133_33, I_133_34, I_133_37, I_133_38, I_133_39, I_133_40, I_133_42, I_133_43, I_133_46, I_133_47, I_133_50, I_133_51, I_133_54, I_133_55, I_133_56, I_133_57, I_133_58, I_133_59, I_133_60, I_133_61, I_133_64, I_133_65, I_133_66, I_133_67, I_133_70, I_133_73, I_133_74, I_133_77, I_133_78, I_133_81, I_133_82, I_133_83, I_133_84, I_133_87, I_133_88, I_133_91, I_133_92, I_133_95, I_133_96, I_133_100, I_133_104, I_133_107, I_133_108, I_133_109, I_133_112, I_133_115, I_133_116, rr_0_0, rr_0_1, rr_0_2, rr_0_3, rr_0_4, rr_0_5, rr_0_6, rr_0_7, rr_0_8, rr_1_0, rr_1_1, rr_1_2, rr_1_3, rr_2_4, rr_2_5, rr_2_6, rr_2_7, rr_2_8, rr_13_0, rr_15_4, rr_15_5, rr_15_6, rr_15_7, rr_15_8, rr_21_4, rr_21_5, rr_21_6, rr_21_7, rr_21_8, rr_27_4, rr_27_5, rr_27_6, rr_27_7, rr_27_8, rr_33_4, rr_33_5, rr_33_6, rr_33_7, rr_33_8, rr_39_4, rr_39_5, rr_39_6, rr_39_7, rr_39_8, rr_45_4, rr_45_5, rr_45_6, rr_45_7, rr_45_8, rr_51_4, rr_51_5, rr_51_6, rr_51_7, rr_51_8, rr_57_4, rr_57_5, rr_57_6, rr_57_7, rr_57_8, rr_63_2, rr_63_3, rr_63_4, rr_63_5, rr_68_0, rr_70_1, rr_70_2, rr_74_4, rr_74_5, rr_74_6, rr_74_7, rr_74_8, rr_80_4, rr_80_5, rr_80_6, rr_80_7, rr_80_8, rr_86_2, rr_88_2, rr_90_2, rr_92_0, rr_92_1, rr_92_5, rr_92_6, rr_92_8, rr_92_9, rr_92_12, rr_92_15, rr_92_16, rr_92_17, hc, nb1, ↓reduceIte, pk_mul, nI_add, hwv, h10, h11, q, q2, not_false_eq_true]
          exact fin
theorem L_word2 (E : ip_E) {σ : ip_G} {n : Nat} {T : Nat → Nat} {s : Nat} (hT : MT σ n T) (h10 : σ 92 10 = nI s) (h11 : σ 92 11 = nI (enS n T s)) (hsn : s ≤ n) (hW : MW σ) (κ : Option Value → ip_G → Prop) : ∀ (m w : Nat) (v1 v2 : Value), w + m = 8 → κ (some (.int (wN (wF n T s (enS n T s) m w)))) σ → wp E 133 2 [.ref 92, .int (nI w), v1, v2] [] σ κ := by
  have hn := hT.2.1
  have hle := enS_le (T := T) hsn
  intro m
  induction m with
  | zero =>
    intro w v1 v2 hw hk
    have hc : nI 7 < nI w := nI_lt (by omega) (by omega)
    simp (disch := first | assumption | exact bz0 | exact bz1 | exact bzi | omega | decide +kernel) only [I_133_0, I_133_1, I_133_2, I_133_3, I_133_5, I_133_8, I_133_9, I_133_12, I_133_13, I_133_16, I_133_19, I_133_20, I_133_23, I_133_24, I_133_27, I_133_28, I_133_30, I_133_33, I_133_34, I_133_37, I_133_38, I_133_39, I_133_40, I_133_41, I_133_42, I_133_43, I_133_46, I_133_47, I_133_50, I_133_51, I_133_54, I_133_55, I_133_56, I_133_57, I_133_58, I_133_59, I_133_60, I_133_61, I_133_64, I_133_65, I_133_66, I_133_67, I_133_70, I_133_73, I_133_74, I_133_77, I_133_78, I_133_81, I_133_82, I_133_83, I_133_84, I_133_87, I_133_88, I_133_91, I_133_92, I_133_95, I_133_96, I_133_97, I_133_100, I_133_103, I_133_104, I_133_107, I_133_108, I_133_109, I_133_112, I_133_115, I_133_116, hc, ↓reduceIte]
    exact hk
  | succ m ih =>
    intro w v1 v2 hw hk
    have hc : ¬ nI 7 < nI w := nI_nlt (by omega) (by omega)
    rw [I_133_2]
    have go : ∀ b, b = decide (s < enS n T s ∧ enS n T s - s < 6) → wp E 133 41 [.ref 92, .int (nI w), .int (nI (b2n b)), .int (nI 0)] [] σ κ := by
      intro b hb
      refine L_word1 E hT h10 h11 hle.1 hle.2 hW (show w < 8 by omega) κ 5 0 b (by omega) (fun v => ?_)
      rw [hb, wd_mi hsn (by omega)]
      cases h : wdB n T s (enS n T s) w with
      | true =>
        have h8 : ¬ w = 8 := by omega
        have e1 : wF n T s (enS n T s) (m + 1) w = w := by unfold wF; rw [if_pos h]
        rw [e1] at hk
        simp only [wN, h8, ↓reduceIte] at hk
        simp (disch := first | assumption | exact bz0 | exact bz1 | exact bzi | omega | decide +kernel) only [I_133_0, I_133_1, I_133_3, I_133_5, I_133_8, I_133_9, I_133_12, I_133_13, I_133_16, I_133_19, I_133_20, I_133_23, I_133_24, I_133_27, I_133_28, I_133_30, I_133_33, I_133_34, I_133_37, I_133_38, I_133_39, I_133_40, I_133_41, I_133_42, I_133_43, I_133_46, I_133_47, I_133_50, I_133_51, I_133_54, I_133_55, I_133_56, I_133_57, I_133_58, I_133_59, I_133_60, I_133_61, I_133_64, I_133_65, I_133_66, I_133_67, I_133_70, I_133_73, I_133_74, I_133_77, I_133_78, I_133_81, I_133_82, I_133_83, I_133_84, I_133_87, I_133_88, I_133_91, I_133_92, I_133_95, I_133_96, I_133_97, I_133_100, I_133_103, I_133_104, I_133_107, I_133_108, I_133_109, I_133_112, I_133_115, I_133_116, nb1, ↓reduceIte]
        exact hk
      | false =>
        have e1 : wF n T s (enS n T s) (m + 1) w = wF n T s (enS n T s) m (w + 1) := by
          show (if wdB n T s (enS n T s) w = true then w else wF n T s (enS n T s) m (w + 1)) = _
          rw [if_neg (by rw [h]; decide)]
        rw [e1] at hk
        simp (disch := first | assumption | exact bz0 | exact bz1 | exact bzi | omega | decide +kernel) only [I_133_0, I_133_1, I_133_3, I_133_5, I_133_8, I_133_9, I_133_12, I_133_13, I_133_16, I_133_19, I_133_20, I_133_23, I_133_24, I_133_27, I_133_28, I_133_30, I_133_33, I_133_34, I_133_37, I_133_38, I_133_39, I_133_40, I_133_41, I_133_42, I_133_43, I_133_46, I_133_47, I_133_50, I_133_51, I_133_54, I_133_55, I_133_56, I_133_57, I_133_58, I_133_59, I_133_60, I_133_61, I_133_64, I_133_65, I_133_66, I_133_67, I_133_70, I_133_73, I_133_74, I_133_77, I_133_78, I_133_81, I_133_82, I_133_83, I_133_84, I_133_87, I_133_88, I_133_91, I_133_92, I_133_95, I_133_96, I_133_97, I_133_100, I_133_103, I_133_104, I_133_107, I_133_108, I_133_109, I_133_112, I_133_115, I_133_116, nb0, ↓reduceIte, nI_add]
        exact ih (w + 1) _ _ (by omega) hk
    by_cases h1 : s < enS n T s
    · have q1 : ¬ nI (enS n T s) ≤ nI s := nI_ge h1 (by omega)
      by_cases h2 : enS n T s - s < 6
      · have q2 : ¬ nI 6 ≤ nI (enS n T s - s) := nI_ge h2 (by omega)
        simp (disch := first | assumption | exact bz0 | exact bz1 | exact bzi | omega | decide +kernel) only [I_133_0, I_133_1, I_133_3, I_133_5, I_133_8, I_133_9, I_133_12, I_133_13, I_133_16, I_133_19, I_133_20, I_133_23, I_133_24, I_133_27, I_133_28, I_133_30, I_133_33, I_133_34, I_133_37, I_133_38, I_133_39, I_133_40, I_133_42, I_133_43, I_133_46, I_133_47, I_133_50, I_133_51, I_133_54, I_133_55, I_133_56, I_133_57, I_133_58, I_133_59, I_133_60, I_133_61, I_133_64, I_133_65, I_133_66, I_133_67, I_133_70, I_133_73, I_133_74, I_133_77, I_133_78, I_133_81, I_133_82, I_133_83, I_133_84, I_133_87, I_133_88, I_133_91, I_133_92, I_133_95, I_133_96, I_133_97, I_133_100, I_133_103, I_133_104, I_133_107, I_133_108, I_133_109, I_133_112, I_133_115, I_133_116, hc, ↓reduceIte, h10, h11, q1, pk_sub hle.1, q2]
        exact go true (decide_eq_true ⟨h1, h2⟩).symm
      · have q2 : nI 6 ≤ nI (enS n T s - s) := nI_le (by omega) (by omega)
        simp (disch := first | assumption | exact bz0 | exact bz1 | exact bzi | omega | decide +kernel) only [I_133_0, I_133_1, I_133_3, I_133_5, I_133_8, I_133_9, I_133_12, I_133_13, I_133_16, I_133_19, I_133_20, I_133_23, I_133_24, I_133_27, I_133_28, I_133_30, I_133_33, I_133_34, I_133_37, I_133_38, I_133_39, I_133_40, I_133_42, I_133_43, I_133_46, I_133_47, I_133_50, I_133_51, I_133_54, I_133_55, I_133_56, I_133_57, I_133_58, I_133_59, I_133_60, I_133_61, I_133_64, I_133_65, I_133_66, I_133_67, I_133_70, I_133_73, I_133_74, I_133_77, I_133_78, I_133_81, I_133_82, I_133_83, I_133_84, I_133_87, I_133_88, I_133_91, I_133_92, I_133_95, I_133_96, I_133_97, I_133_100, I_133_103, I_133_104, I_133_107, I_133_108, I_133_109, I_133_112, I_133_115, I_133_116, hc, ↓reduceIte, h10, h11, q1, pk_sub hle.1, q2]
        exact go false (decide_eq_false (fun z => h2 z.2)).symm
    · have q1 : nI (enS n T s) ≤ nI s := nI_le (by omega) (by omega)
      simp (disch := first | assumption | exact bz0 | exact bz1 | exact bzi | omega | decide +kernel) only [I_133_0, I_133_1, I_133_3, I_133_5, I_133_8, I_133_9, I_133_12, I_133_13, I_133_16, I_133_19, I_133_20, I_133_23, I_133_24, I_133_27, I_133_28, I_133_30, I_133_33, I_133_34, I_133_37, I_133_38, I_133_39, I_133_40, I_133_42, I_133_43, I_133_46, I_133_47, I_133_50, I_133_51, I_133_54, I_133_55, I_133_56, I_133_57, I_133_58, I_133_59, I_133_60, I_133_61, I_133_64, I_133_65, I_133_66, I_133_67, I_133_70, I_133_73, I_133_74, I_133_77, I_133_78, I_133_81, I_133_82, I_133_83, I_133_84, I_133_87, I_133_88, I_133_91, I_133_92, I_133_95, I_133_96, I_133_97, I_133_100, I_133_103, I_133_104, I_133_107, I_133_108, I_133_109, I_133_112, I_133_115, I_133_116, hc, ↓reduceIte, h10, h11, q1]
      exact go false (decide_eq_false (fun z => h1 z.1)).symm
theorem m_wordHere (E : ip_E) {σ : ip_G} {n : Nat} {T : Nat → Nat} {p : Nat} (hX : MX σ n T p) (hW : MW σ) (κ : Option Value → ip_G → Prop) (hk : κ (some (.int (wN (clW n T p)))) σ) : wp E 133 0 [.ref 92, .retAddr 0, .retAddr 0, .retAddr 0] [] σ κ := by
  simp (disch := first | assumption | exact bz0 | exact bz1 | exact bzi | omega | decide +kernel) only [I_133_0, I_133_1, I_133_3, I_133_5, I_133_8, I_133_9, I_133_12, I_133_13, I_133_16, I_133_19, I_133_20, I_133_23, I_133_24, I_133_27, I_133_28, I_133_30, I_133_33, I_133_34, I_133_37, I_133_38, I_133_39, I_133_40, I_133_41, I_133_42, I_133_43, I_133_46, I_133_47, I_133_50, I_133_51, I_133_54, I_133_55, I_133_56, I_133_57, I_133_58, I_133_59, I_133_60, I_133_61, I_133_64, I_133_65, I_133_66, I_133_67, I_133_70, I_133_73, I_133_74, I_133_77, I_133_78, I_133_81, I_133_82, I_133_83, I_133_84, I_133_87, I_133_88, I_133_91, I_133_92, I_133_95, I_133_96, I_133_97, I_133_100, I_133_103, I_133_104, I_133_107, I_133_108, I_133_109, I_133_112, I_133_115, I_133_116]
  exact L_word2 E hX.1 hX.2.1 hX.2.2.1 (te_le hX.2.2.2).2.2.2 hW κ 8 0 _ _ (by omega) hk
