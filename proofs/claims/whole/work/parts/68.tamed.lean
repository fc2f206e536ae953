/-! tamed: both sides -/
def tmdR (D : Nat → Nat) (x y : Int32) : Int32 := if inr x (D 1) = true then (if inq y 1 12 = true then nI (tmN (up D (tn x)) (tn y) (D 0)) else -3) else -2
theorem L_tamed (E : ip_E) {σ : ip_G} (f : Nat → Bool) {k e : Nat} (hk : k ≤ 12) (he : e ≤ 12) (q : Int32) (κ : Option Value → ip_G → Prop) : ∀ (m s best : Nat), s + m = 2 ^ e → best ≤ 12 → wp E 176 47 [.ref 92, .int q, .int (nI k), .int (nI (bits f e)), .int (nI e), .int (nI best), .int (nI s)] [] σ κ = κ (some (.int (nI (mF (okS f k e) (fun s => cnt (bt (nI s)) 12) m s best)))) σ := by
  have hp : 2 ^ e ≤ 4096 := Nat.le_trans (Nat.pow_le_pow_right (by decide) he) (by decide)
  have R1 := fun x σ κ => m_run E x (show e ≤ 31 by omega) true σ κ
  have R2 := fun x σ κ => m_run E x (show e ≤ 31 by omega) false σ κ
  simp only [b2n_t, b2n_f, lr_bt, lr_bf] at R1 R2
  intro m
  induction m with
  | zero =>
    intro s best hs hb
    have hc : nI (2 ^ e) ≤ nI s := nI_le (by omega) (by omega)
    simp (disch := first | assumption | exact bz0 | exact bz1 | exact bzi | omega | decide +kernel) only [I_176_0, I_176_1, I_176_2, I_176_5, I_176_8, I_176_10, I_176_11, I_176_12, I_176_13, I_176_14, I_176_17, I_176_20, I_176_23, I_176_25, I_176_26, I_176_27, I_176_28, I_176_31, I_176_32, I_176_33, I_176_36, I_176_37, I_176_38, I_176_40, I_176_42, I_176_44, I_176_45, I_176_47, I_176_49, I_176_50, I_176_52, I_176_53, I_176_56, I_176_58, I_176_61, I_176_63, I_176_66, I_176_67, I_176_69, I_176_70, I_176_72, I_176_73, I_176_76, I_176_77, I_176_80, I_176_81, I_176_83, I_176_84, I_176_86, I_176_87, I_176_90, I_176_91, I_176_94, I_176_96, I_176_99, I_176_101, I_176_104, I_176_107, I_176_109, nI_shl1 (show e < 31 by omega), hc, ↓reduceIte, mF]
  | succ m ih =>
    intro s best hs hb
    have hc : ¬ nI (2 ^ e) ≤ nI s := nI_ge (by omega) (by omega)
    have c12 := cnt_le (bt (nI s)) 12
    have l1 := lrun_le (bt (nI (bits f e) ^^^ nI s)) e
    have l2 := lrun_le (fun i => !bt (nI (bits f e) ^^^ nI s) i) e
    rw [I_176_47]
    have e1 : mF (okS f k e) (fun s => cnt (bt (nI s)) 12) (m + 1) s best = mF (okS f k e) (fun s => cnt (bt (nI s)) 12) m (s + 1) (if cnt (bt (nI s)) 12 < best ∧ okS f k e s = true then cnt (bt (nI s)) 12 else best) := rfl
    rw [e1]
    by_cases h1 : cnt (bt (nI s)) 12 < best
    · have h1' : ¬ nI best ≤ nI (cnt (bt (nI s)) 12) := nI_ge (by omega) (by omega)
      by_cases h2 : lrun (bt (nI (bits f e) ^^^ nI s)) e ≤ k
      · have h2' : ¬ nI k < nI (lrun (bt (nI (bits f e) ^^^ nI s)) e) := nI_nlt (by omega) (by omega)
        by_cases h3 : lrun (fun i => !bt (nI (bits f e) ^^^ nI s) i) e ≤ k
        · have h3' : ¬ nI k < nI (lrun (fun i => !bt (nI (bits f e) ^^^ nI s) i) e) := nI_nlt (by omega) (by omega)
          have hok : okS f k e s = true := decide_eq_true ⟨h2, h3⟩
          simp (disch := first | assumption | exact bz0 | exact bz1 | exact bzi | omega | decide +kernel) only [I_176_0, I_176_1, I_176_2, I_176_5, I_176_8, I_176_10, I_176_11, I_176_12, I_176_13, I_176_14, I_176_17, I_176_20, I_176_23, I_176_25, I_176_26, I_176_27, I_176_28, I_176_31, I_176_32, I_176_33, I_176_36, I_176_37, I_176_38, I_176_40, I_176_42, I_176_44, I_176_45, I_176_49, I_176_50, I_176_52, I_176_53, I_176_56, I_176_58, I_176_61, I_176_63, I_176_66, I_176_67, I_176_69, I_176_70, I_176_72, I_176_73, I_176_76, I_176_77, I_176_80, I_176_81, I_176_83, I_176_84, I_176_86, I_176_87, I_176_90, I_176_91, I_176_94, I_176_96, I_176_99, I_176_101, I_176_104, I_176_107, I_176_109, nI_shl1 (show e < 31 by omega), hc, ↓reduceIte, m_ones, R1, R2, h1', h2', h3', Option.toList_some, List.cons_append, List.nil_append, nI_add]
          rw [ih (s + 1) _ (by omega) (by omega), if_pos ⟨h1, hok⟩]
        · have h3' : nI k < nI (lrun (fun i => !bt (nI (bits f e) ^^^ nI s) i) e) := nI_lt (by omega) (by omega)
          have hok : ¬ okS f k e s = true := fun z => h3 (of_decide_eq_true z).2
          simp (disch := first | assumption | exact bz0 | exact bz1 | exact bzi | omega | decide +kernel) only [I_176_0, I_176_1, I_176_2, I_176_5, I_176_8, I_176_10, I_176_11, I_176_12, I_176_13, I_176_14, I_176_17, I_176_20, I_176_23, I_176_25, I_176_26, I_176_27, I_176_28, I_176_31, I_176_32, I_176_33, I_176_36, I_176_37, I_176_38, I_176_40, I_176_42, I_176_44, I_176_45, I_176_49, I_176_50, I_176_52, I_176_53, I_176_56, I_176_58, I_176_61, I_176_63, I_176_66, I_176_67, I_176_69, I_176_70, I_176_72, I_176_73, I_176_76, I_176_77, I_176_80, I_176_81, I_176_83, I_176_84, I_176_86, I_176_87, I_176_90, I_176_91, I_176_94, I_176_96, I_176_99, I_176_101, I_176_104, I_176_107, I_176_109, nI_shl1 (show e < 31 by omega), hc, ↓reduceIte, m_ones, R1, R2, h1', h2', h3', Option.toList_some, List.cons_append, List.nil_append, nI_add]
          rw [ih (s + 1) _ (by omega) (by omega), if_neg (fun z => hok z.2)]
      · have h2' : nI k < nI (lrun (bt (nI (bits f e) ^^^ nI s)) e) := nI_lt (by omega) (by omega)
        have hok : ¬ okS f k e s = true := fun z => h2 (of_decide_eq_true z).1
        simp (disch := first | assumption | exact bz0 | exact bz1 | exact bzi | omega | decide +kernel) only [I_176_0, I_176_1, I_176_2, I_176_5, I_176_8, I_176_10, I_176_11, I_176_12, I_176_13, I_176_14, I_176_17, I_176_20, I_176_23, I_176_25, I_176_26, I_176_27, I_176_28, I_176_31, I_176_32, I_176_33, I_176_36, I_176_37, I_176_38, I_176_40, I_176_42, I_176_44, I_176_45, I_176_49, I_176_50, I_176_52, I_176_53, I_176_56, I_176_58, I_176_61, I_176_63, I_176_66, I_176_67, I_176_69, I_176_70, I_176_72, I_176_73, I_176_76, I_176_77, I_176_80, I_176_81, I_176_83, I_176_84, I_176_86, I_176_87, I_176_90, I_176_91, I_176_94, I_176_96, I_176_99, I_176_101, I_176_104, I_176_107, I_176_109, nI_shl1 (show e < 31 by omega), hc, ↓reduceIte, m_ones, R1, R2, h1', h2', Option.toList_some, List.cons_append, List.nil_append, nI_add]
        rw [ih (s + 1) _ (by omega) (by omega), if_neg (fun z => hok z.2)]
    · have h1' : nI best ≤ nI (cnt (bt (nI s)) 12) := nI_le (by omega) (by omega)
      simp (disch := first | assumption | exact bz0 | exact bz1 | exact bzi | omega | decide +kernel) only [I_176_0, I_176_1, I_176_2, I_176_5, I_176_8, I_176_10, I_176_11, I_176_12, I_176_13, I_176_14, I_176_17, I_176_20, I_176_23, I_176_25, I_176_26, I_176_27, I_176_28, I_176_31, I_176_32, I_176_33, I_176_36, I_176_37, I_176_38, I_176_40, I_176_42, I_176_44, I_176_45, I_176_49, I_176_50, I_176_52, I_176_53, I_176_56, I_176_58, I_176_61, I_176_63, I_176_66, I_176_67, I_176_69, I_176_70, I_176_72, I_176_73, I_176_76, I_176_77, I_176_80, I_176_81, I_176_83, I_176_84, I_176_86, I_176_87, I_176_90, I_176_91, I_176_94, I_176_96, I_176_99, I_176_101, I_176_104, I_176_107, I_176_109, nI_shl1 (show e < 31 by omega), hc, ↓reduceIte, m_ones, h1', Option.toList_some, List.cons_append, List.nil_append, nI_add]
      rw [ih (s + 1) _ (by omega) (by omega), if_neg (fun z => h1 z.1)]
theorem lk12 : (12 : Int64).toInt = 12 := by decide +kernel
theorem m_tamed (E : ip_E) {σ : ip_G} {D : Nat → Nat} (hM : MD σ 0 D) (hW : WD D) (x y : Int32) (κ : Option Value → ip_G → Prop) : wp E 176 0 [.ref 92, .int x, .int y, .retAddr 0, .retAddr 0, .retAddr 0, .retAddr 0] [] σ κ = κ (some (.int (tmdR D x y))) σ := by
  have w := hW.1
  by_cases h : inr x (D 1) = true
  · obtain ⟨a, ha, rfl⟩ := inr_t h
    have ha2 := tn_nI (show a < 2147483648 by omega)
    by_cases h2 : inq y 1 12 = true
    · obtain ⟨k, hk1, hk2, rfl⟩ := inq_t (a := 1) (b := 12) h2
      have hk3 := tn_nI (show k < 2147483648 by omega)
      simp (disch := first | assumption | exact bz0 | exact bz1 | exact bzi | omega | decide +kernel) only [I_176_0, I_176_1, I_176_2, I_176_5, I_176_8, I_176_10, I_176_11, I_176_12, I_176_13, I_176_14, I_176_17, I_176_20, I_176_23, I_176_25, I_176_26, I_176_27, I_176_28, I_176_31, I_176_32, I_176_33, I_176_36, I_176_37, I_176_38, I_176_40, I_176_42, I_176_44, I_176_45, I_176_49, I_176_50, I_176_52, I_176_53, I_176_56, I_176_58, I_176_61, I_176_63, I_176_66, I_176_67, I_176_69, I_176_70, I_176_72, I_176_73, I_176_76, I_176_77, I_176_80, I_176_81, I_176_83, I_176_84, I_176_86, I_176_87, I_176_90, I_176_91, I_176_94, I_176_96, I_176_99, I_176_101, I_176_104, I_176_107, I_176_109, rr_0_0, rr_0_1, rr_0_2, rr_0_3, rr_0_4, rr_0_5, rr_0_6, rr_0_7, rr_0_8, rr_1_0, rr_1_1, rr_1_2, rr_1_3, rr_2_4, rr_2_5, rr_2_6, rr_2_7, rr_2_8, rr_13_0, rr_15_4, rr_15_5, rr_15_6, rr_15_7, rr_15_8, rr_21_4, rr_21_5, rr_21_6, rr_21_7, rr_21_8, rr_27_4, rr_27_5, rr_27_6, rr_27_7, rr_27_8, rr_33_4, rr_33_5, rr_33_6, rr_33_7, rr_33_8, rr_39_4, rr_39_5, rr_39_6, rr_39_7, rr_39_8, rr_45_4, rr_45_5, rr_45_6, rr_45_7, rr_45_8, rr_51_4, rr_51_5, rr_51_6, rr_51_7, rr_51_8, rr_57_4, rr_57_5, rr_57_6, rr_57_7, rr_57_8, rr_63_2, rr_63_3, rr_63_4, rr_63_5, rr_68_0, rr_70_1, rr_70_2, rr_74_4, rr_74_5, rr_74_6, rr_74_7, rr_74_8, rr_80_4, rr_80_5, rr_80_6, rr_80_7, rr_80_8, rr_86_2, rr_88_2, rr_90_2, rr_92_0, rr_92_1, rr_92_5, rr_92_6, rr_92_8, rr_92_9, rr_92_12, rr_92_15, rr_92_16, rr_92_17, m_isPick E hM hW, m_in, i2l_toInt, l1, lk12, inq_dec, h, h2, b2n_t, nz1, not_false_eq_true, ↓reduceIte, Option.toList_some, List.cons_append, List.nil_append, m_upPick E hM hW (show a < 12 by omega), (MD0 hM).1 0 (by omega)]
      rw [L_tamed E (up D a) (by omega) (by omega) _ κ (2 ^ D 0) 0 (D 0) (by omega) (by omega), tame_eq (up D a) hk1 (by omega) (by omega)]
      simp only [tmdR, h, h2, ha2, hk3, ↓reduceIte]
    · have hb : inq y 1 12 = false := by simpa using h2
      simp (disch := first | assumption | exact bz0 | exact bz1 | exact bzi | omega | decide +kernel) only [I_176_0, I_176_1, I_176_2, I_176_5, I_176_8, I_176_10, I_176_11, I_176_12, I_176_13, I_176_14, I_176_17, I_176_20, I_176_23, I_176_25, I_176_26, I_176_27, I_176_28, I_176_31, I_176_32, I_176_33, I_176_36, I_176_37, I_176_38, I_176_40, I_176_42, I_176_44, I_176_45, I_176_49, I_176_50, I_176_52, I_176_53, I_176_56, I_176_58, I_176_61, I_176_63, I_176_66, I_176_67, I_176_69, I_176_70, I_176_72, I_176_73, I_176_76, I_176_77, I_176_80, I_176_81, I_176_83, I_176_84, I_176_86, I_176_87, I_176_90, I_176_91, I_176_94, I_176_96, I_176_99, I_176_101, I_176_104, I_176_107, I_176_109, rr_0_0, rr_0_1, rr_0_2, rr_0_3, rr_0_4, rr_0_5, rr_0_6, rr_0_7, rr_0_8, rr_1_0, rr_1_1, rr_1_2, rr_1_3, rr_2_4, rr_2_5, rr_2_6, rr_2_7, rr_2_8, rr_13_0, rr_15_4, rr_15_5, rr_15_6, rr_15_7, rr_15_8, rr_21_4, rr_21_5, rr_21_6, rr_21_7, rr_21_8, rr_27_4, rr_27_5, rr_27_6, rr_27_7, rr_27_8, rr_33_4, rr_33_5, rr_33_6, rr_33_7, rr_33_8, rr_39_4, rr_39_5, rr_39_6, rr_39_7, rr_39_8, rr_45_4, rr_45_5, rr_45_6, rr_45_7, rr_45_8, rr_51_4, rr_51_5, rr_51_6, rr_51_7, rr_51_8, rr_57_4, rr_57_5, rr_57_6, rr_57_7, rr_57_8, rr_63_2, rr_63_3, rr_63_4, rr_63_5, rr_68_0, rr_70_1, rr_70_2, rr_74_4, rr_74_5, rr_74_6, rr_74_7, rr_74_8, rr_80_4, rr_80_5, rr_80_6, rr_80_7, rr_80_8, rr_86_2, rr_88_2, rr_90_2, rr_92_0, rr_92_1, rr_92_5, rr_92_6, rr_92_8, rr_92_9, rr_92_12, rr_92_15, rr_92_16, rr_92_17, m_isPick E hM hW, m_in, i2l_toInt, l1, lk12, inq_dec, h, hb, b2n_t, b2n_f, ip_nI0, nz1, not_false_eq_true, not_true_eq_false, ↓reduceIte, Option.toList_some, List.cons_append, List.nil_append, tmdR, Bool.false_eq_true]
  · have hb : inr x (D 1) = false := by simpa using h
    simp (disch := first | assumption | exact bz0 | exact bz1 | exact bzi | omega | decide +kernel) only [I_176_0, I_176_1, I_176_2, I_176_5, I_176_8, I_176_10, I_176_11, I_176_12, I_176_13, I_176_14, I_176_17, I_176_20, I_176_23, I_176_25, I_176_26, I_176_27, I_176_28, I_176_31, I_176_32, I_176_33, I_176_36, I_176_37, I_176_38, I_176_40, I_176_42, I_176_44, I_176_45, I_176_49, I_176_50, I_176_52, I_176_53, I_176_56, I_176_58, I_176_61, I_176_63, I_176_66, I_176_67, I_176_69, I_176_70, I_176_72, I_176_73, I_176_76, I_176_77, I_176_80, I_176_81, I_176_83, I_176_84, I_176_86, I_176_87, I_176_90, I_176_91, I_176_94, I_176_96, I_176_99, I_176_101, I_176_104, I_176_107, I_176_109, rr_0_0, rr_0_1, rr_0_2, rr_0_3, rr_0_4, rr_0_5, rr_0_6, rr_0_7, rr_0_8, rr_1_0, rr_1_1, rr_1_2, rr_1_3, rr_2_4, rr_2_5, rr_2_6, rr_2_7, rr_2_8, rr_13_0, rr_15_4, rr_15_5, rr_15_6, rr_15_7, rr_15_8, rr_21_4, rr_21_5, rr_21_6, rr_21_7, rr_21_8, rr_27_4, rr_27_5, rr_27_6, rr_27_7, rr_27_8, rr_33_4, rr_33_5, rr_33_6, rr_33_7, rr_33_8, rr_39_4, rr_39_5, rr_39_6, rr_39_7, rr_39_8, rr_45_4, rr_45_5, rr_45_6, rr_45_7, rr_45_8, rr_51_4, rr_51_5, rr_51_6, rr_51_7, rr_51_8, rr_57_4, rr_57_5, rr_57_6, rr_57_7, rr_57_8, rr_63_2, rr_63_3, rr_63_4, rr_63_5, rr_68_0, rr_70_1, rr_70_2, rr_74_4, rr_74_5, rr_74_6, rr_74_7, rr_74_8, rr_80_4, rr_80_5, rr_80_6, rr_80_7, rr_80_8, rr_86_2, rr_88_2, rr_90_2, rr_92_0, rr_92_1, rr_92_5, rr_92_6, rr_92_8, rr_92_9, rr_92_12, rr_92_15, rr_92_16, rr_92_17, m_isPick E hM hW, hb, b2n_f, ip_nI0, not_true_eq_false, ↓reduceIte, Option.toList_some, List.cons_append, List.nil_append, tmdR, Bool.false_eq_true]
theorem seg_bits (f : Nat → Bool) {e lo r : Nat} (he : e ≤ 12) (h : lo + r ≤ e) : nI (bits f e) >>> (nI lo &&& 31) &&& (nI 1 <<< (nI r &&& 31) - nI 1) = nI (bits (fun i => f (lo + i)) r) := by
  rw [low_nI r (by omega)]
  apply b_ext
  intro i hi
  rw [b_and, low_bt r (by omega) i hi, b_sshr lo (by omega) _ hi, bt_nI (m := bits (fun i => f (lo + i)) r) hi, bits_test]
  by_cases hr : i < r
  · rw [if_pos (by omega), bt_bits (by omega) (by omega)]
    simp [hr]
  · simp [hr]
def fwI (σ σ' : ip_G) (f : Nat → Bool) (k n : Nat) : Prop := (∀ m, m < n → σ' 9 m = nI (dp f k true m) ∧ σ' 10 m = nI (dp f k false m)) ∧ ∀ j, j ≠ 9 → j ≠ 10 → σ' j = σ j
theorem iN_13 (f : Nat → Bool) (T : Bool → Nat → Nat) (b : Bool) (n : Nat) : ∀ r, iN f T b n r ≤ 13
  | 0 => Nat.le_refl _
  | r + 1 => Nat.le_trans (Nat.min_le_left _ _) (iN_13 f T b n r)
theorem L_few1 (E : ip_E) {σ : ip_G} (f : Nat → Bool) {k e n : Nat} (hk1 : 1 ≤ k) (hk : k ≤ 12) (he : e ≤ 12) (hn1 : 1 ≤ n) (hn : n ≤ e) (q : Int32) (κ : Option Value → ip_G → Prop) : ∀ (m r : Nat) (v : Value) (σ' : ip_G), r + m = min k n → fwI σ σ' f k n → σ' 9 n = nI (iN f (dp f k) true n r) → σ' 10 n = nI (iN f (dp f k) false n r) → (∀ (v : Int32) (v2 : Value) σ2, fwI σ σ2 f k (n + 1) → wp E 89 159 [.ref 1, .int q, .int (nI k), .int (nI (bits f e)), .int (nI n), .int v, v2] [] σ2 κ) → wp E 89 59 [.ref 1, .int q, .int (nI k), .int (nI (bits f e)), .int (nI n), .int (nI (r + 1)), v] [] σ' κ := by
  intro m
  induction m with
  | zero =>
    intro r v σ' hr hI h9 h10 hk3
    have fin : fwI σ σ' f k (n + 1) := by
      refine ⟨fun j hj => ?_, hI.2⟩
      by_cases ej : j = n
      · have hs := fun b => dp_s f k b (n - 1)
        rw [show n - 1 + 1 = n by omega] at hs
        rw [ej, h9, h10, hs, hs, show r = min k n by omega]
        exact ⟨rfl, rfl⟩
      · exact hI.1 j (by omega)
    by_cases hkn : k ≤ n
    · have hc : nI k < nI (r + 1) := nI_lt (by omega) (by omega)
      simp (disch := first | assumption | exact bz0 | exact bz1 | exact bzi | omega | decide +kernel) only [I_89_0, I_89_1, I_89_4, I_89_5, I_89_8, I_89_9, I_89_10, I_89_13, I_89_14, I_89_15, I_89_16, I_89_17, I_89_20, I_89_21, I_89_22, I_89_23, I_89_24, I_89_28, I_89_29, I_89_32, I_89_35, I_89_38, I_89_39, I_89_42, I_89_44, I_89_46, I_89_47, I_89_48, I_89_51, I_89_53, I_89_55, I_89_56, I_89_57, I_89_59, I_89_61, I_89_62, I_89_65, I_89_67, I_89_69, I_89_72, I_89_73, I_89_75, I_89_77, I_89_78, I_89_79, I_89_81, I_89_84, I_89_85, I_89_88, I_89_90, I_89_91, I_89_94, I_89_96, I_89_97, I_89_100, I_89_102, I_89_103, I_89_104, I_89_107, I_89_109, I_89_111, I_89_112, I_89_113, I_89_115, I_89_116, I_89_118, I_89_119, I_89_122, I_89_123, I_89_124, I_89_127, I_89_129, I_89_130, I_89_133, I_89_135, I_89_136, I_89_137, I_89_140, I_89_142, I_89_144, I_89_145, I_89_146, I_89_148, I_89_149, I_89_152, I_89_153, I_89_156, I_89_162, I_89_165, I_89_166, I_89_169, I_89_170, I_89_173, I_89_176, I_89_177, I_89_178, I_89_181, I_89_182, I_89_185, I_89_188, I_89_189, I_89_192, hc, ↓reduceIte]
      exact hk3 _ _ σ' fin
    · have hc : ¬ nI k < nI (r + 1) := nI_nlt (by omega) (by omega)
      have hc2 : nI n < nI (r + 1) := nI_lt (by omega) (by omega)
      simp (disch := first | assumption | exact bz0 | exact bz1 | exact bzi | omega | decide +kernel) only [I_89_0, I_89_1, I_89_4, I_89_5, I_89_8, I_89_9, I_89_10, I_89_13, I_89_14, I_89_15, I_89_16, I_89_17, I_89_20, I_89_21, I_89_22, I_89_23, I_89_24, I_89_28, I_89_29, I_89_32, I_89_35, I_89_38, I_89_39, I_89_42, I_89_44, I_89_46, I_89_47, I_89_48, I_89_51, I_89_53, I_89_55, I_89_56, I_89_57, I_89_59, I_89_61, I_89_62, I_89_65, I_89_67, I_89_69, I_89_72, I_89_73, I_89_75, I_89_77, I_89_78, I_89_79, I_89_81, I_89_84, I_89_85, I_89_88, I_89_90, I_89_91, I_89_94, I_89_96, I_89_97, I_89_100, I_89_102, I_89_103, I_89_104, I_89_107, I_89_109, I_89_111, I_89_112, I_89_113, I_89_115, I_89_116, I_89_118, I_89_119, I_89_122, I_89_123, I_89_124, I_89_127, I_89_129, I_89_130, I_89_133, I_89_135, I_89_136, I_89_137, I_89_140, I_89_142, I_89_144, I_89_145, I_89_146, I_89_148, I_89_149, I_89_152, I_89_153, I_89_156, I_89_162, I_89_165, I_89_166, I_89_169, I_89_170, I_89_173, I_89_176, I_89_177, I_89_178, I_89_181, I_89_182, I_89_185, I_89_188, I_89_189, I_89_192, hc, hc2, ↓reduceIte]
      exact hk3 _ _ σ' fin
  | succ m ih =>
    intro r v σ' hr hI h9 h10 hk3
    have hc : ¬ nI k < nI (r + 1) := nI_nlt (by omega) (by omega)
    have hc2 : ¬ nI n < nI (r + 1) := nI_nlt (by omega) (by omega)
    have hsub : nI n - nI (r + 1) = nI (n - (r + 1)) := pk_sub (by omega)
    have a1 := (hI.1 (n - (r + 1)) (by omega)).1
    have a2 := (hI.1 (n - (r + 1)) (by omega)).2
    have d1 := dp_le f k hk1 (n - (r + 1)) true
    have d2 := dp_le f k hk1 (n - (r + 1)) false
    have c1 := cnt_le (fun i => f (n - (r + 1) + i)) (r + 1)
    have i1 := iN_13 f (dp f k) true n r
    have i2 := iN_13 f (dp f k) false n r
    have sb := seg_bits f (e := e) (lo := n - (r + 1)) (r := r + 1) he (by omega)
    have bb := bc_bits (f := fun i => f (n - (r + 1) + i)) (n := r + 1) (by omega)
    have hne : ¬ n - (r + 1) = n := by omega
    rw [I_89_59]
    simp (disch := first | assumption | exact bz0 | exact bz1 | exact bzi | omega | decide +kernel) only [I_89_0, I_89_1, I_89_4, I_89_5, I_89_8, I_89_9, I_89_10, I_89_13, I_89_14, I_89_15, I_89_16, I_89_17, I_89_20, I_89_21, I_89_22, I_89_23, I_89_24, I_89_28, I_89_29, I_89_32, I_89_35, I_89_38, I_89_39, I_89_42, I_89_44, I_89_46, I_89_47, I_89_48, I_89_51, I_89_53, I_89_55, I_89_56, I_89_57, I_89_61, I_89_62, I_89_65, I_89_67, I_89_69, I_89_72, I_89_73, I_89_75, I_89_77, I_89_78, I_89_79, I_89_81, I_89_84, I_89_85, I_89_88, I_89_90, I_89_91, I_89_94, I_89_96, I_89_97, I_89_100, I_89_102, I_89_103, I_89_104, I_89_107, I_89_109, I_89_111, I_89_112, I_89_113, I_89_115, I_89_116, I_89_118, I_89_119, I_89_122, I_89_123, I_89_124, I_89_127, I_89_129, I_89_130, I_89_133, I_89_135, I_89_136, I_89_137, I_89_140, I_89_142, I_89_144, I_89_145, I_89_146, I_89_148, I_89_149, I_89_152, I_89_153, I_89_156, I_89_162, I_89_165, I_89_166, I_89_169, I_89_170, I_89_173, I_89_176, I_89_177, I_89_178, I_89_181, I_89_182, I_89_185, I_89_188, I_89_189, I_89_192, rr_0_0, rr_0_1, rr_0_2, rr_0_3, rr_0_4, rr_0_5, rr_0_6, rr_0_7, rr_0_8, rr_1_0, rr_1_1, rr_1_2, rr_1_3, rr_2_4, rr_2_5, rr_2_6, rr_2_7, rr_2_8, rr_13_0, rr_15_4, rr_15_5, rr_15_6, rr_15_7, rr_15_8, rr_21_4, rr_21_5, rr_21_6, rr_21_7, rr_21_8, rr_27_4, rr_27_5, rr_27_6, rr_27_7, rr_27_8, rr_33_4, rr_33_5, rr_33_6, rr_33_7, rr_33_8, rr_39_4, rr_39_5, rr_39_6, rr_39_7, rr_39_8, rr_45_4, rr_45_5, rr_45_6, rr_45_7, rr_45_8, rr_51_4, rr_51_5, rr_51_6, rr_51_7, rr_51_8, rr_57_4, rr_57_5, rr_57_6, rr_57_7, rr_57_8, rr_63_2, rr_63_3, rr_63_4, rr_63_5, rr_68_0, rr_70_1, rr_70_2, rr_74_4, rr_74_5, rr_74_6, rr_74_7, rr_74_8, rr_80_4, rr_80_5, rr_80_6, rr_80_7, rr_80_8, rr_86_2, rr_88_2, rr_90_2, rr_92_0, rr_92_1, rr_92_5, rr_92_6, rr_92_8, rr_92_9, rr_92_12, rr_92_15, rr_92_16, rr_92_17, hc, hc2, hsub, ↓reduceIte, c_lowest, c_bc, sb, bb, Option.toList_some, List.cons_append, List.nil_append, h9, h10, a1, a2, nI_add, pk_sub (show cnt (fun i => f (n - (r + 1) + i)) (r + 1) ≤ dp f k false (n - (r + 1)) + (r + 1) by omega), u2_k, u2_i, nI_min]
    refine ih (r + 1) _ _ (by omega) ⟨fun j hj => ?_, fun j b1 b2 => ?_⟩ ?_ ?_ hk3
    · rw [u2_k (by omega), u2_i (by omega), u2_i (by omega), u2_k (by omega)]; exact hI.1 j hj
    · rw [u2_f b2, u2_f b1]; exact hI.2 j b1 b2
    · rw [u2_k (by omega), u2_s]
      congr 1
      show _ = min (iN f (dp f k) true n r) (dp f k (!true) (n - (r + 1)) + cs f true (n - (r + 1)) (r + 1))
      unfold cs
      rw [if_pos rfl, Bool.not_true]
      omega
    · rw [u2_s]
      congr 1
theorem L_few2 (E : ip_E) {σ : ip_G} (f : Nat → Bool) {k e : Nat} (hk1 : 1 ≤ k) (hk : k ≤ 12) (he : e ≤ 12) (he1 : 1 ≤ e) (h0 : σ 2 0 = nI e) (q : Int32) (κ : Option Value → ip_G → Prop) : ∀ (m n : Nat) (v v2 : Value) (σ' : ip_G), n + m = e + 1 → 1 ≤ n → fwI σ σ' f k n → (∀ σ2, (∀ j, j ≠ 9 → j ≠ 10 → σ2 j = σ j) → κ (some (.int (nI (tmN f k e)))) σ2) → wp E 89 26 [.ref 1, .int q, .int (nI k), .int (nI (bits f e)), .int (nI n), v, v2] [] σ' κ := by
  intro m
  induction m with
  | zero =>
    intro n v v2 σ' hn hn1 hI hk3
    have hc : nI e < nI n := nI_lt (by omega) (by omega)
    have z0 : σ' 2 0 = nI e := by rw [hI.2 2 (by omega) (by omega)]; exact h0
    have a1 := (hI.1 e (by omega)).1
    have a2 := (hI.1 e (by omega)).2
    have d1 := dp_le f k hk1 e true
    have d2 := dp_le f k hk1 e false
    simp (disch := first | assumption | exact bz0 | exact bz1 | exact bzi | omega | decide +kernel) only [I_89_0, I_89_1, I_89_4, I_89_5, I_89_8, I_89_9, I_89_10, I_89_13, I_89_14, I_89_15, I_89_16, I_89_17, I_89_20, I_89_21, I_89_22, I_89_23, I_89_24, I_89_26, I_89_28, I_89_29, I_89_32, I_89_35, I_89_38, I_89_39, I_89_42, I_89_44, I_89_46, I_89_47, I_89_48, I_89_51, I_89_53, I_89_55, I_89_56, I_89_57, I_89_59, I_89_61, I_89_62, I_89_65, I_89_67, I_89_69, I_89_72, I_89_73, I_89_75, I_89_77, I_89_78, I_89_79, I_89_81, I_89_84, I_89_85, I_89_88, I_89_90, I_89_91, I_89_94, I_89_96, I_89_97, I_89_100, I_89_102, I_89_103, I_89_104, I_89_107, I_89_109, I_89_111, I_89_112, I_89_113, I_89_115, I_89_116, I_89_118, I_89_119, I_89_122, I_89_123, I_89_124, I_89_127, I_89_129, I_89_130, I_89_133, I_89_135, I_89_136, I_89_137, I_89_140, I_89_142, I_89_144, I_89_145, I_89_146, I_89_148, I_89_149, I_89_152, I_89_153, I_89_156, I_89_159, I_89_162, I_89_165, I_89_166, I_89_169, I_89_170, I_89_173, I_89_176, I_89_177, I_89_178, I_89_181, I_89_182, I_89_185, I_89_188, I_89_189, I_89_192, rr_0_0, rr_0_1, rr_0_2, rr_0_3, rr_0_4, rr_0_5, rr_0_6, rr_0_7, rr_0_8, rr_1_0, rr_1_1, rr_1_2, rr_1_3, rr_2_4, rr_2_5, rr_2_6, rr_2_7, rr_2_8, rr_13_0, rr_15_4, rr_15_5, rr_15_6, rr_15_7, rr_15_8, rr_21_4, rr_21_5, rr_21_6, rr_21_7, rr_21_8, rr_27_4, rr_27_5, rr_27_6, rr_27_7, rr_27_8, rr_33_4, rr_33_5, rr_33_6, rr_33_7, rr_33_8, rr_39_4, rr_39_5, rr_39_6, rr_39_7, rr_39_8, rr_45_4, rr_45_5, rr_45_6, rr_45_7, rr_45_8, rr_51_4, rr_51_5, rr_51_6, rr_51_7, rr_51_8, rr_57_4, rr_57_5, rr_57_6, rr_57_7, rr_57_8, rr_63_2, rr_63_3, rr_63_4, rr_63_5, rr_68_0, rr_70_1, rr_70_2, rr_74_4, rr_74_5, rr_74_6, rr_74_7, rr_74_8, rr_80_4, rr_80_5, rr_80_6, rr_80_7, rr_80_8, rr_86_2, rr_88_2, rr_90_2, rr_92_0, rr_92_1, rr_92_5, rr_92_6, rr_92_8, rr_92_9, rr_92_12, rr_92_15, rr_92_16, rr_92_17, z0, hc, ↓reduceIte, a1, a2, nI_min]
    exact hk3 σ' hI.2
  | succ m ih =>
    intro n v v2 σ' hn hn1 hI hk3
    have hc : ¬ nI e < nI n := nI_nlt (by omega) (by omega)
    have z0 : σ' 2 0 = nI e := by rw [hI.2 2 (by omega) (by omega)]; exact h0
    rw [I_89_26]
    simp (disch := first | assumption | exact bz0 | exact bz1 | exact bzi | omega | decide +kernel) only [I_89_0, I_89_1, I_89_4, I_89_5, I_89_8, I_89_9, I_89_10, I_89_13, I_89_14, I_89_15, I_89_16, I_89_17, I_89_20, I_89_21, I_89_22, I_89_23, I_89_24, I_89_28, I_89_29, I_89_32, I_89_35, I_89_38, I_89_39, I_89_42, I_89_44, I_89_46, I_89_47, I_89_48, I_89_51, I_89_53, I_89_55, I_89_56, I_89_57, I_89_61, I_89_62, I_89_65, I_89_67, I_89_69, I_89_72, I_89_73, I_89_75, I_89_77, I_89_78, I_89_79, I_89_81, I_89_84, I_89_85, I_89_88, I_89_90, I_89_91, I_89_94, I_89_96, I_89_97, I_89_100, I_89_102, I_89_103, I_89_104, I_89_107, I_89_109, I_89_111, I_89_112, I_89_113, I_89_115, I_89_116, I_89_118, I_89_119, I_89_122, I_89_123, I_89_124, I_89_127, I_89_129, I_89_130, I_89_133, I_89_135, I_89_136, I_89_137, I_89_140, I_89_142, I_89_144, I_89_145, I_89_146, I_89_148, I_89_149, I_89_152, I_89_153, I_89_156, I_89_159, I_89_162, I_89_165, I_89_166, I_89_169, I_89_170, I_89_173, I_89_176, I_89_177, I_89_178, I_89_181, I_89_182, I_89_185, I_89_188, I_89_189, I_89_192, rr_0_0, rr_0_1, rr_0_2, rr_0_3, rr_0_4, rr_0_5, rr_0_6, rr_0_7, rr_0_8, rr_1_0, rr_1_1, rr_1_2, rr_1_3, rr_2_4, rr_2_5, rr_2_6, rr_2_7, rr_2_8, rr_13_0, rr_15_4, rr_15_5, rr_15_6, rr_15_7, rr_15_8, rr_21_4, rr_21_5, rr_21_6, rr_21_7, rr_21_8, rr_27_4, rr_27_5, rr_27_6, rr_27_7, rr_27_8, rr_33_4, rr_33_5, rr_33_6, rr_33_7, rr_33_8, rr_39_4, rr_39_5, rr_39_6, rr_39_7, rr_39_8, rr_45_4, rr_45_5, rr_45_6, rr_45_7, rr_45_8, rr_51_4, rr_51_5, rr_51_6, rr_51_7, rr_51_8, rr_57_4, rr_57_5, rr_57_6, rr_57_7, rr_57_8, rr_63_2, rr_63_3, rr_63_4, rr_63_5, rr_68_0, rr_70_1, rr_70_2, rr_74_4, rr_74_5, rr_74_6, rr_74_7, rr_74_8, rr_80_4, rr_80_5, rr_80_6, rr_80_7, rr_80_8, rr_86_2, rr_88_2, rr_90_2, rr_92_0, rr_92_1, rr_92_5, rr_92_6, rr_92_8, rr_92_9, rr_92_12, rr_92_15, rr_92_16, rr_92_17, z0, hc, ↓reduceIte]
    refine L_few1 E f hk1 hk he hn1 (by omega) q κ (min k n) 0 _ _ (by omega) (σ := σ) ⟨fun j hj => ?_, fun j b1 b2 => ?_⟩ ?_ ?_ (fun v3 v4 σ2 h2 => ?_)
    · rw [u2_k (by omega), u2_i (by omega), u2_i (by omega), u2_k (by omega)]; exact hI.1 j hj
    · rw [u2_f b2, u2_f b1]; exact hI.2 j b1 b2
    · rw [u2_k (by omega), u2_s]; rfl
    · rw [u2_s]; rfl
    · simp (disch := first | assumption | exact bz0 | exact bz1 | exact bzi | omega | decide +kernel) only [I_89_0, I_89_1, I_89_4, I_89_5, I_89_8, I_89_9, I_89_10, I_89_13, I_89_14, I_89_15, I_89_16, I_89_17, I_89_20, I_89_21, I_89_22, I_89_23, I_89_24, I_89_28, I_89_29, I_89_32, I_89_35, I_89_38, I_89_39, I_89_42, I_89_44, I_89_46, I_89_47, I_89_48, I_89_51, I_89_53, I_89_55, I_89_56, I_89_57, I_89_61, I_89_62, I_89_65, I_89_67, I_89_69, I_89_72, I_89_73, I_89_75, I_89_77, I_89_78, I_89_79, I_89_81, I_89_84, I_89_85, I_89_88, I_89_90, I_89_91, I_89_94, I_89_96, I_89_97, I_89_100, I_89_102, I_89_103, I_89_104, I_89_107, I_89_109, I_89_111, I_89_112, I_89_113, I_89_115, I_89_116, I_89_118, I_89_119, I_89_122, I_89_123, I_89_124, I_89_127, I_89_129, I_89_130, I_89_133, I_89_135, I_89_136, I_89_137, I_89_140, I_89_142, I_89_144, I_89_145, I_89_146, I_89_148, I_89_149, I_89_152, I_89_153, I_89_156, I_89_159, I_89_162, I_89_165, I_89_166, I_89_169, I_89_170, I_89_173, I_89_176, I_89_177, I_89_178, I_89_181, I_89_182, I_89_185, I_89_188, I_89_189, I_89_192, nI_add]
      exact ih (n + 1) _ _ σ2 (by omega) (by omega) h2 hk3
theorem c_fewestTurned (E : ip_E) {σ : ip_G} {D : Nat → Nat} (hC : CD σ 2 D) (hW : WD D) {q k : Nat} (hq : q < 12) (hk1 : 1 ≤ k) (hk : k ≤ 12) (κ : Option Value → ip_G → Prop) (hk3 : ∀ σ2, (∀ j, j ≠ 9 → j ≠ 10 → σ2 j = σ j) → κ (some (.int (nI (tmN (up D q) k (D 0))))) σ2) : wp E 89 0 [.ref 1, .int (nI q), .int (nI k), .retAddr 0, .retAddr 0, .retAddr 0, .retAddr 0] [] σ κ := by
  have w := hW.1
  simp (disch := first | assumption | exact bz0 | exact bz1 | exact bzi | omega | decide +kernel) only [I_89_0, I_89_1, I_89_4, I_89_5, I_89_8, I_89_9, I_89_10, I_89_13, I_89_14, I_89_15, I_89_16, I_89_17, I_89_20, I_89_21, I_89_22, I_89_23, I_89_24, I_89_28, I_89_29, I_89_32, I_89_35, I_89_38, I_89_39, I_89_42, I_89_44, I_89_46, I_89_47, I_89_48, I_89_51, I_89_53, I_89_55, I_89_56, I_89_57, I_89_59, I_89_61, I_89_62, I_89_65, I_89_67, I_89_69, I_89_72, I_89_73, I_89_75, I_89_77, I_89_78, I_89_79, I_89_81, I_89_84, I_89_85, I_89_88, I_89_90, I_89_91, I_89_94, I_89_96, I_89_97, I_89_100, I_89_102, I_89_103, I_89_104, I_89_107, I_89_109, I_89_111, I_89_112, I_89_113, I_89_115, I_89_116, I_89_118, I_89_119, I_89_122, I_89_123, I_89_124, I_89_127, I_89_129, I_89_130, I_89_133, I_89_135, I_89_136, I_89_137, I_89_140, I_89_142, I_89_144, I_89_145, I_89_146, I_89_148, I_89_149, I_89_152, I_89_153, I_89_156, I_89_159, I_89_162, I_89_165, I_89_166, I_89_169, I_89_170, I_89_173, I_89_176, I_89_177, I_89_178, I_89_181, I_89_182, I_89_185, I_89_188, I_89_189, I_89_192, rr_0_0, rr_0_1, rr_0_2, rr_0_3, rr_0_4, rr_0_5, rr_0_6, rr_0_7, rr_0_8, rr_1_0, rr_1_1, rr_1_2, rr_1_3, rr_2_4, rr_2_5, rr_2_6, rr_2_7, rr_2_8, rr_13_0, rr_15_4, rr_15_5, rr_15_6, rr_15_7, rr_15_8, rr_21_4, rr_21_5, rr_21_6, rr_21_7, rr_21_8, rr_27_4, rr_27_5, rr_27_6, rr_27_7, rr_27_8, rr_33_4, rr_33_5, rr_33_6, rr_33_7, rr_33_8, rr_39_4, rr_39_5, rr_39_6, rr_39_7, rr_39_8, rr_45_4, rr_45_5, rr_45_6, rr_45_7, rr_45_8, rr_51_4, rr_51_5, rr_51_6, rr_51_7, rr_51_8, rr_57_4, rr_57_5, rr_57_6, rr_57_7, rr_57_8, rr_63_2, rr_63_3, rr_63_4, rr_63_5, rr_68_0, rr_70_1, rr_70_2, rr_74_4, rr_74_5, rr_74_6, rr_74_7, rr_74_8, rr_80_4, rr_80_5, rr_80_6, rr_80_7, rr_80_8, rr_86_2, rr_88_2, rr_90_2, rr_92_0, rr_92_1, rr_92_5, rr_92_6, rr_92_8, rr_92_9, rr_92_12, rr_92_15, rr_92_16, rr_92_17, c_endsUp E (Or.inl rfl) hC hW hq, Option.toList_some, List.cons_append, List.nil_append]
  refine L_few2 E (up D q) (σ := σ) hk1 hk (by omega) (by omega) (hC.1 0 (by omega)) _ κ (D 0) 1 _ _ _ (by omega) (by omega) ⟨fun j hj => ?_, fun j b1 b2 => by rw [u2_f b2, u2_f b1]⟩ hk3
  have : j = 0 := by omega
  subst this
  rw [u2_k (by omega), u2_s, u2_s]
  exact ⟨rfl, rfl⟩
theorem c_tamed (E : ip_E) {σ : ip_G} {D : Nat → Nat} (hC : CD σ 2 D) (hW : WD D) (x y : Int32) (κ : Option Value → ip_G → Prop) (hk3 : ∀ σ2, (∀ j, j ≠ 9 → j ≠ 10 → σ2 j = σ j) → κ (some (.int (tmdR D x y))) σ2) : wp E 88 0 [.ref 0, .int x, .int y] [] σ κ := by
  have w := hW.1
  by_cases h : inr x (D 1) = true
  · obtain ⟨a, ha, rfl⟩ := inr_t h
    have ha2 := tn_nI (show a < 2147483648 by omega)
    by_cases h2 : inq y 1 12 = true
    · obtain ⟨k, hk1, hk2, rfl⟩ := inq_t (a := 1) (b := 12) h2
      have hk4 := tn_nI (show k < 2147483648 by omega)
      have a1 : ¬ nI k < nI 1 := nI_nlt (by omega) (by omega)
      have a2 : nI k ≤ nI 12 := nI_le (by omega) (by omega)
      simp only [tmdR, h, h2, ha2, hk4, ↓reduceIte] at hk3
      simp (disch := first | assumption | exact bz0 | exact bz1 | exact bzi | omega | decide +kernel) only [I_88_0, I_88_1, I_88_4, I_88_5, I_88_8, I_88_11, I_88_13, I_88_14, I_88_15, I_88_16, I_88_19, I_88_20, I_88_22, I_88_25, I_88_27, I_88_28, I_88_29, I_88_32, I_88_33, I_88_34, I_88_37, rr_0_0, rr_0_1, rr_0_2, rr_0_3, rr_0_4, rr_0_5, rr_0_6, rr_0_7, rr_0_8, rr_1_0, rr_1_1, rr_1_2, rr_1_3, rr_2_4, rr_2_5, rr_2_6, rr_2_7, rr_2_8, rr_13_0, rr_15_4, rr_15_5, rr_15_6, rr_15_7, rr_15_8, rr_21_4, rr_21_5, rr_21_6, rr_21_7, rr_21_8, rr_27_4, rr_27_5, rr_27_6, rr_27_7, rr_27_8, rr_33_4, rr_33_5, rr_33_6, rr_33_7, rr_33_8, rr_39_4, rr_39_5, rr_39_6, rr_39_7, rr_39_8, rr_45_4, rr_45_5, rr_45_6, rr_45_7, rr_45_8, rr_51_4, rr_51_5, rr_51_6, rr_51_7, rr_51_8, rr_57_4, rr_57_5, rr_57_6, rr_57_7, rr_57_8, rr_63_2, rr_63_3, rr_63_4, rr_63_5, rr_68_0, rr_70_1, rr_70_2, rr_74_4, rr_74_5, rr_74_6, rr_74_7, rr_74_8, rr_80_4, rr_80_5, rr_80_6, rr_80_7, rr_80_8, rr_86_2, rr_88_2, rr_90_2, rr_92_0, rr_92_1, rr_92_5, rr_92_6, rr_92_8, rr_92_9, rr_92_12, rr_92_15, rr_92_16, rr_92_17, c_hasPick E hC hW, h, b2n_t, nz1, a1, a2, not_false_eq_true, ↓reduceIte, Option.toList_some, List.cons_append, List.nil_append]
      refine c_fewestTurned E hC hW (by omega) hk1 hk2 _ (fun σ2 h3 => ?_)
      simp (disch := first | assumption | exact bz0 | exact bz1 | exact bzi | omega | decide +kernel) only [I_88_0, I_88_1, I_88_4, I_88_5, I_88_8, I_88_11, I_88_13, I_88_14, I_88_15, I_88_16, I_88_19, I_88_20, I_88_22, I_88_25, I_88_27, I_88_28, I_88_29, I_88_32, I_88_33, I_88_34, I_88_37, Option.toList_some, List.cons_append, List.nil_append]
      exact hk3 σ2 h3
    · simp only [tmdR, h, h2, Bool.false_eq_true, ↓reduceIte] at hk3
      rcases inq_f h2 with h1 | h1
      · have a1 : y < nI 1 := (ltn_iff (by omega)).mpr h1
        simp (disch := first | assumption | exact bz0 | exact bz1 | exact bzi | omega | decide +kernel) only [I_88_0, I_88_1, I_88_4, I_88_5, I_88_8, I_88_11, I_88_13, I_88_14, I_88_15, I_88_16, I_88_19, I_88_20, I_88_22, I_88_25, I_88_27, I_88_28, I_88_29, I_88_32, I_88_33, I_88_34, I_88_37, rr_0_0, rr_0_1, rr_0_2, rr_0_3, rr_0_4, rr_0_5, rr_0_6, rr_0_7, rr_0_8, rr_1_0, rr_1_1, rr_1_2, rr_1_3, rr_2_4, rr_2_5, rr_2_6, rr_2_7, rr_2_8, rr_13_0, rr_15_4, rr_15_5, rr_15_6, rr_15_7, rr_15_8, rr_21_4, rr_21_5, rr_21_6, rr_21_7, rr_21_8, rr_27_4, rr_27_5, rr_27_6, rr_27_7, rr_27_8, rr_33_4, rr_33_5, rr_33_6, rr_33_7, rr_33_8, rr_39_4, rr_39_5, rr_39_6, rr_39_7, rr_39_8, rr_45_4, rr_45_5, rr_45_6, rr_45_7, rr_45_8, rr_51_4, rr_51_5, rr_51_6, rr_51_7, rr_51_8, rr_57_4, rr_57_5, rr_57_6, rr_57_7, rr_57_8, rr_63_2, rr_63_3, rr_63_4, rr_63_5, rr_68_0, rr_70_1, rr_70_2, rr_74_4, rr_74_5, rr_74_6, rr_74_7, rr_74_8, rr_80_4, rr_80_5, rr_80_6, rr_80_7, rr_80_8, rr_86_2, rr_88_2, rr_90_2, rr_92_0, rr_92_1, rr_92_5, rr_92_6, rr_92_8, rr_92_9, rr_92_12, rr_92_15, rr_92_16, rr_92_17, c_hasPick E hC hW, h, b2n_t, nz1, a1, not_false_eq_true, ↓reduceIte, Option.toList_some, List.cons_append, List.nil_append]
        exact hk3 σ (fun _ _ _ => rfl)
      · have a1 : ¬ y < nI 1 := fun z => by have := (ltn_iff (by omega)).mp z; omega
        have a2 : ¬ y ≤ nI 12 := fun z => by have := (len_iff (by omega)).mp z; omega
        simp (disch := first | assumption | exact bz0 | exact bz1 | exact bzi | omega | decide +kernel) only [I_88_0, I_88_1, I_88_4, I_88_5, I_88_8, I_88_11, I_88_13, I_88_14, I_88_15, I_88_16, I_88_19, I_88_20, I_88_22, I_88_25, I_88_27, I_88_28, I_88_29, I_88_32, I_88_33, I_88_34, I_88_37, rr_0_0, rr_0_1, rr_0_2, rr_0_3, rr_0_4, rr_0_5, rr_0_6, rr_0_7, rr_0_8, rr_1_0, rr_1_1, rr_1_2, rr_1_3, rr_2_4, rr_2_5, rr_2_6, rr_2_7, rr_2_8, rr_13_0, rr_15_4, rr_15_5, rr_15_6, rr_15_7, rr_15_8, rr_21_4, rr_21_5, rr_21_6, rr_21_7, rr_21_8, rr_27_4, rr_27_5, rr_27_6, rr_27_7, rr_27_8, rr_33_4, rr_33_5, rr_33_6, rr_33_7, rr_33_8, rr_39_4, rr_39_5, rr_39_6, rr_39_7, rr_39_8, rr_45_4, rr_45_5, rr_45_6, rr_45_7, rr_45_8, rr_51_4, rr_51_5, rr_51_6, rr_51_7, rr_51_8, rr_57_4, rr_57_5, rr_57_6, rr_57_7, rr_57_8, rr_63_2, rr_63_3, rr_63_4, rr_63_5, rr_68_0, rr_70_1, rr_70_2, rr_74_4, rr_74_5, rr_74_6, rr_74_7, rr_74_8, rr_80_4, rr_80_5, rr_80_6, rr_80_7, rr_80_8, rr_86_2, rr_88_2, rr_90_2, rr_92_0, rr_92_1, rr_92_5, rr_92_6, rr_92_8, rr_92_9, rr_92_12, rr_92_15, rr_92_16, rr_92_17, c_hasPick E hC hW, h, b2n_t, nz1, a1, a2, not_false_eq_true, ↓reduceIte, Option.toList_some, List.cons_append, List.nil_append]
        exact hk3 σ (fun _ _ _ => rfl)
  · have hb : inr x (D 1) = false := by simpa using h
    simp only [tmdR, hb, Bool.false_eq_true, ↓reduceIte] at hk3
    simp (disch := first | assumption | exact bz0 | exact bz1 | exact bzi | omega | decide +kernel) only [I_88_0, I_88_1, I_88_4, I_88_5, I_88_8, I_88_11, I_88_13, I_88_14, I_88_15, I_88_16, I_88_19, I_88_20, I_88_22, I_88_25, I_88_27, I_88_28, I_88_29, I_88_32, I_88_33, I_88_34, I_88_37, rr_0_0, rr_0_1, rr_0_2, rr_0_3, rr_0_4, rr_0_5, rr_0_6, rr_0_7, rr_0_8, rr_1_0, rr_1_1, rr_1_2, rr_1_3, rr_2_4, rr_2_5, rr_2_6, rr_2_7, rr_2_8, rr_13_0, rr_15_4, rr_15_5, rr_15_6, rr_15_7, rr_15_8, rr_21_4, rr_21_5, rr_21_6, rr_21_7, rr_21_8, rr_27_4, rr_27_5, rr_27_6, rr_27_7, rr_27_8, rr_33_4, rr_33_5, rr_33_6, rr_33_7, rr_33_8, rr_39_4, rr_39_5, rr_39_6, rr_39_7, rr_39_8, rr_45_4, rr_45_5, rr_45_6, rr_45_7, rr_45_8, rr_51_4, rr_51_5, rr_51_6, rr_51_7, rr_51_8, rr_57_4, rr_57_5, rr_57_6, rr_57_7, rr_57_8, rr_63_2, rr_63_3, rr_63_4, rr_63_5, rr_68_0, rr_70_1, rr_70_2, rr_74_4, rr_74_5, rr_74_6, rr_74_7, rr_74_8, rr_80_4, rr_80_5, rr_80_6, rr_80_7, rr_80_8, rr_86_2, rr_88_2, rr_90_2, rr_92_0, rr_92_1, rr_92_5, rr_92_6, rr_92_8, rr_92_9, rr_92_12, rr_92_15, rr_92_16, rr_92_17, c_hasPick E hC hW, hb, b2n_f, ip_nI0, not_true_eq_false, ↓reduceIte, Option.toList_some, List.cons_append, List.nil_append]
    exact hk3 σ (fun _ _ _ => rfl)
