/-! PLACES: where references lead, by program -/
theorem rr_0_0 : ip_rr 0 0 = 1 := by decide +kernel
theorem rr_0_1 : ip_rr 0 1 = 2 := by decide +kernel
theorem rr_0_2 : ip_rr 0 2 = 11 := by decide +kernel
theorem rr_0_3 : ip_rr 0 3 = 12 := by decide +kernel
theorem rr_0_4 : ip_rr 0 4 = 13 := by decide +kernel
theorem rr_0_5 : ip_rr 0 5 = 63 := by decide +kernel
theorem rr_0_6 : ip_rr 0 6 = 68 := by decide +kernel
theorem rr_0_7 : ip_rr 0 7 = 70 := by decide +kernel
theorem rr_0_8 : ip_rr 0 8 = 73 := by decide +kernel
theorem rr_1_0 : ip_rr 1 0 = 2 := by decide +kernel
theorem rr_1_1 : ip_rr 1 1 = 8 := by decide +kernel
theorem rr_1_2 : ip_rr 1 2 = 9 := by decide +kernel
theorem rr_1_3 : ip_rr 1 3 = 10 := by decide +kernel
theorem rr_2_4 : ip_rr 2 4 = 3 := by decide +kernel
theorem rr_2_5 : ip_rr 2 5 = 4 := by decide +kernel
theorem rr_2_6 : ip_rr 2 6 = 5 := by decide +kernel
theorem rr_2_7 : ip_rr 2 7 = 6 := by decide +kernel
theorem rr_2_8 : ip_rr 2 8 = 7 := by decide +kernel
theorem rr_13_0 : ip_rr 13 0 = 14 := by decide +kernel
theorem rr_15_4 : ip_rr 15 4 = 16 := by decide +kernel
theorem rr_15_5 : ip_rr 15 5 = 17 := by decide +kernel
theorem rr_15_6 : ip_rr 15 6 = 18 := by decide +kernel
theorem rr_15_7 : ip_rr 15 7 = 19 := by decide +kernel
theorem rr_15_8 : ip_rr 15 8 = 20 := by decide +kernel
theorem rr_21_4 : ip_rr 21 4 = 22 := by decide +kernel
theorem rr_21_5 : ip_rr 21 5 = 23 := by decide +kernel
theorem rr_21_6 : ip_rr 21 6 = 24 := by decide +kernel
theorem rr_21_7 : ip_rr 21 7 = 25 := by decide +kernel
theorem rr_21_8 : ip_rr 21 8 = 26 := by decide +kernel
theorem rr_27_4 : ip_rr 27 4 = 28 := by decide +kernel
theorem rr_27_5 : ip_rr 27 5 = 29 := by decide +kernel
theorem rr_27_6 : ip_rr 27 6 = 30 := by decide +kernel
theorem rr_27_7 : ip_rr 27 7 = 31 := by decide +kernel
theorem rr_27_8 : ip_rr 27 8 = 32 := by decide +kernel
theorem rr_33_4 : ip_rr 33 4 = 34 := by decide +kernel
theorem rr_33_5 : ip_rr 33 5 = 35 := by decide +kernel
theorem rr_33_6 : ip_rr 33 6 = 36 := by decide +kernel
theorem rr_33_7 : ip_rr 33 7 = 37 := by decide +kernel
theorem rr_33_8 : ip_rr 33 8 = 38 := by decide +kernel
theorem rr_39_4 : ip_rr 39 4 = 40 := by decide +kernel
theorem rr_39_5 : ip_rr 39 5 = 41 := by decide +kernel
theorem rr_39_6 : ip_rr 39 6 = 42 := by decide +kernel
theorem rr_39_7 : ip_rr 39 7 = 43 := by decide +kernel
theorem rr_39_8 : ip_rr 39 8 = 44 := by decide +kernel
theorem rr_45_4 : ip_rr 45 4 = 46 := by decide +kernel
theorem rr_45_5 : ip_rr 45 5 = 47 := by decide +kernel
theorem rr_45_6 : ip_rr 45 6 = 48 := by decide +kernel
theorem rr_45_7 : ip_rr 45 7 = 49 := by decide +kernel
theorem rr_45_8 : ip_rr 45 8 = 50 := by decide +kernel
theorem rr_51_4 : ip_rr 51 4 = 52 := by decide +kernel
theorem rr_51_5 : ip_rr 51 5 = 53 := by decide +kernel
theorem rr_51_6 : ip_rr 51 6 = 54 := by decide +kernel
theorem rr_51_7 : ip_rr 51 7 = 55 := by decide +kernel
theorem rr_51_8 : ip_rr 51 8 = 56 := by decide +kernel
theorem rr_57_4 : ip_rr 57 4 = 58 := by decide +kernel
theorem rr_57_5 : ip_rr 57 5 = 59 := by decide +kernel
theorem rr_57_6 : ip_rr 57 6 = 60 := by decide +kernel
theorem rr_57_7 : ip_rr 57 7 = 61 := by decide +kernel
theorem rr_57_8 : ip_rr 57 8 = 62 := by decide +kernel
theorem rr_63_2 : ip_rr 63 2 = 64 := by decide +kernel
theorem rr_63_3 : ip_rr 63 3 = 65 := by decide +kernel
theorem rr_63_4 : ip_rr 63 4 = 66 := by decide +kernel
theorem rr_63_5 : ip_rr 63 5 = 67 := by decide +kernel
theorem rr_68_0 : ip_rr 68 0 = 69 := by decide +kernel
theorem rr_70_1 : ip_rr 70 1 = 71 := by decide +kernel
theorem rr_70_2 : ip_rr 70 2 = 72 := by decide +kernel
theorem rr_74_4 : ip_rr 74 4 = 75 := by decide +kernel
theorem rr_74_5 : ip_rr 74 5 = 76 := by decide +kernel
theorem rr_74_6 : ip_rr 74 6 = 77 := by decide +kernel
theorem rr_74_7 : ip_rr 74 7 = 78 := by decide +kernel
theorem rr_74_8 : ip_rr 74 8 = 79 := by decide +kernel
theorem rr_80_4 : ip_rr 80 4 = 81 := by decide +kernel
theorem rr_80_5 : ip_rr 80 5 = 82 := by decide +kernel
theorem rr_80_6 : ip_rr 80 6 = 83 := by decide +kernel
theorem rr_80_7 : ip_rr 80 7 = 84 := by decide +kernel
theorem rr_80_8 : ip_rr 80 8 = 85 := by decide +kernel
theorem rr_86_2 : ip_rr 86 2 = 87 := by decide +kernel
theorem rr_88_2 : ip_rr 88 2 = 89 := by decide +kernel
theorem rr_90_2 : ip_rr 90 2 = 91 := by decide +kernel
theorem rr_92_0 : ip_rr 92 0 = 93 := by decide +kernel
theorem rr_92_1 : ip_rr 92 1 = 94 := by decide +kernel
theorem rr_92_5 : ip_rr 92 5 = 95 := by decide +kernel
theorem rr_92_6 : ip_rr 92 6 = 96 := by decide +kernel
theorem rr_92_8 : ip_rr 92 8 = 97 := by decide +kernel
theorem rr_92_9 : ip_rr 92 9 = 98 := by decide +kernel
theorem rr_92_12 : ip_rr 92 12 = 99 := by decide +kernel
theorem rr_92_15 : ip_rr 92 15 = 100 := by decide +kernel
theorem rr_92_16 : ip_rr 92 16 = 101 := by decide +kernel
theorem rr_92_17 : ip_rr 92 17 = 102 := by decide +kernel
theorem tg_0 : ip_tg 0 = some 7 := by decide +kernel
theorem tg_1 : ip_tg 1 = some 0 := by decide +kernel
theorem tg_2 : ip_tg 2 = some 1 := by decide +kernel
theorem tg_3 : ip_tg 3 = some 100 := by decide +kernel
theorem ln_3 : ip_ln 3 = 12 := by decide +kernel
theorem tg_4 : ip_tg 4 = some 100 := by decide +kernel
theorem ln_4 : ip_ln 4 = 6 := by decide +kernel
theorem tg_5 : ip_tg 5 = some 100 := by decide +kernel
theorem ln_5 : ip_ln 5 = 12 := by decide +kernel
theorem tg_6 : ip_tg 6 = some 100 := by decide +kernel
theorem ln_6 : ip_ln 6 = 12 := by decide +kernel
theorem tg_7 : ip_tg 7 = some 100 := by decide +kernel
theorem ln_7 : ip_ln 7 = 12 := by decide +kernel
theorem tg_8 : ip_tg 8 = some 100 := by decide +kernel
theorem ln_8 : ip_ln 8 = 12 := by decide +kernel
theorem tg_9 : ip_tg 9 = some 100 := by decide +kernel
theorem ln_9 : ip_ln 9 = 13 := by decide +kernel
theorem tg_10 : ip_tg 10 = some 100 := by decide +kernel
theorem ln_10 : ip_ln 10 = 13 := by decide +kernel
theorem tg_11 : ip_tg 11 = some 201 := by decide +kernel
theorem ln_11 : ip_ln 11 = 2 := by decide +kernel
theorem tg_12 : ip_tg 12 = some 101 := by decide +kernel
theorem ln_12 : ip_ln 12 = 2 := by decide +kernel
theorem tg_13 : ip_tg 13 = some 2 := by decide +kernel
theorem tg_14 : ip_tg 14 = some 201 := by decide +kernel
theorem ln_14 : ip_ln 14 = 8 := by decide +kernel
theorem tg_15 : ip_tg 15 = some 1 := by decide +kernel
theorem tg_16 : ip_tg 16 = some 100 := by decide +kernel
theorem ln_16 : ip_ln 16 = 12 := by decide +kernel
theorem tg_17 : ip_tg 17 = some 100 := by decide +kernel
theorem ln_17 : ip_ln 17 = 6 := by decide +kernel
theorem tg_18 : ip_tg 18 = some 100 := by decide +kernel
theorem ln_18 : ip_ln 18 = 12 := by decide +kernel
theorem tg_19 : ip_tg 19 = some 100 := by decide +kernel
theorem ln_19 : ip_ln 19 = 12 := by decide +kernel
theorem tg_20 : ip_tg 20 = some 100 := by decide +kernel
theorem ln_20 : ip_ln 20 = 12 := by decide +kernel
theorem tg_21 : ip_tg 21 = some 1 := by decide +kernel
theorem tg_22 : ip_tg 22 = some 100 := by decide +kernel
theorem ln_22 : ip_ln 22 = 12 := by decide +kernel
theorem tg_23 : ip_tg 23 = some 100 := by decide +kernel
theorem ln_23 : ip_ln 23 = 6 := by decide +kernel
theorem tg_24 : ip_tg 24 = some 100 := by decide +kernel
theorem ln_24 : ip_ln 24 = 12 := by decide +kernel
theorem tg_25 : ip_tg 25 = some 100 := by decide +kernel
theorem ln_25 : ip_ln 25 = 12 := by decide +kernel
theorem tg_26 : ip_tg 26 = some 100 := by decide +kernel
theorem ln_26 : ip_ln 26 = 12 := by decide +kernel
theorem tg_27 : ip_tg 27 = some 1 := by decide +kernel
theorem tg_28 : ip_tg 28 = some 100 := by decide +kernel
theorem ln_28 : ip_ln 28 = 12 := by decide +kernel
theorem tg_29 : ip_tg 29 = some 100 := by decide +kernel
theorem ln_29 : ip_ln 29 = 6 := by decide +kernel
theorem tg_30 : ip_tg 30 = some 100 := by decide +kernel
theorem ln_30 : ip_ln 30 = 12 := by decide +kernel
theorem tg_31 : ip_tg 31 = some 100 := by decide +kernel
theorem ln_31 : ip_ln 31 = 12 := by decide +kernel
theorem tg_32 : ip_tg 32 = some 100 := by decide +kernel
theorem ln_32 : ip_ln 32 = 12 := by decide +kernel
theorem tg_33 : ip_tg 33 = some 1 := by decide +kernel
theorem tg_34 : ip_tg 34 = some 100 := by decide +kernel
theorem ln_34 : ip_ln 34 = 12 := by decide +kernel
theorem tg_35 : ip_tg 35 = some 100 := by decide +kernel
theorem ln_35 : ip_ln 35 = 6 := by decide +kernel
theorem tg_36 : ip_tg 36 = some 100 := by decide +kernel
theorem ln_36 : ip_ln 36 = 12 := by decide +kernel
theorem tg_37 : ip_tg 37 = some 100 := by decide +kernel
theorem ln_37 : ip_ln 37 = 12 := by decide +kernel
theorem tg_38 : ip_tg 38 = some 100 := by decide +kernel
theorem ln_38 : ip_ln 38 = 12 := by decide +kernel
theorem tg_39 : ip_tg 39 = some 1 := by decide +kernel
theorem tg_40 : ip_tg 40 = some 100 := by decide +kernel
theorem ln_40 : ip_ln 40 = 12 := by decide +kernel
theorem tg_41 : ip_tg 41 = some 100 := by decide +kernel
theorem ln_41 : ip_ln 41 = 6 := by decide +kernel
theorem tg_42 : ip_tg 42 = some 100 := by decide +kernel
theorem ln_42 : ip_ln 42 = 12 := by decide +kernel
theorem tg_43 : ip_tg 43 = some 100 := by decide +kernel
theorem ln_43 : ip_ln 43 = 12 := by decide +kernel
theorem tg_44 : ip_tg 44 = some 100 := by decide +kernel
theorem ln_44 : ip_ln 44 = 12 := by decide +kernel
theorem tg_45 : ip_tg 45 = some 1 := by decide +kernel
theorem tg_46 : ip_tg 46 = some 100 := by decide +kernel
theorem ln_46 : ip_ln 46 = 12 := by decide +kernel
theorem tg_47 : ip_tg 47 = some 100 := by decide +kernel
theorem ln_47 : ip_ln 47 = 6 := by decide +kernel
theorem tg_48 : ip_tg 48 = some 100 := by decide +kernel
theorem ln_48 : ip_ln 48 = 12 := by decide +kernel
theorem tg_49 : ip_tg 49 = some 100 := by decide +kernel
theorem ln_49 : ip_ln 49 = 12 := by decide +kernel
theorem tg_50 : ip_tg 50 = some 100 := by decide +kernel
theorem ln_50 : ip_ln 50 = 12 := by decide +kernel
theorem tg_51 : ip_tg 51 = some 1 := by decide +kernel
theorem tg_52 : ip_tg 52 = some 100 := by decide +kernel
theorem ln_52 : ip_ln 52 = 12 := by decide +kernel
theorem tg_53 : ip_tg 53 = some 100 := by decide +kernel
theorem ln_53 : ip_ln 53 = 6 := by decide +kernel
theorem tg_54 : ip_tg 54 = some 100 := by decide +kernel
theorem ln_54 : ip_ln 54 = 12 := by decide +kernel
theorem tg_55 : ip_tg 55 = some 100 := by decide +kernel
theorem ln_55 : ip_ln 55 = 12 := by decide +kernel
theorem tg_56 : ip_tg 56 = some 100 := by decide +kernel
theorem ln_56 : ip_ln 56 = 12 := by decide +kernel
theorem tg_57 : ip_tg 57 = some 1 := by decide +kernel
theorem tg_58 : ip_tg 58 = some 100 := by decide +kernel
theorem ln_58 : ip_ln 58 = 12 := by decide +kernel
theorem tg_59 : ip_tg 59 = some 100 := by decide +kernel
theorem ln_59 : ip_ln 59 = 6 := by decide +kernel
theorem tg_60 : ip_tg 60 = some 100 := by decide +kernel
theorem ln_60 : ip_ln 60 = 12 := by decide +kernel
theorem tg_61 : ip_tg 61 = some 100 := by decide +kernel
theorem ln_61 : ip_ln 61 = 12 := by decide +kernel
theorem tg_62 : ip_tg 62 = some 100 := by decide +kernel
theorem ln_62 : ip_ln 62 = 12 := by decide +kernel
theorem tg_63 : ip_tg 63 = some 4 := by decide +kernel
theorem tg_64 : ip_tg 64 = some 100 := by decide +kernel
theorem ln_64 : ip_ln 64 = 12 := by decide +kernel
theorem tg_65 : ip_tg 65 = some 100 := by decide +kernel
theorem ln_65 : ip_ln 65 = 12 := by decide +kernel
theorem tg_66 : ip_tg 66 = some 100 := by decide +kernel
theorem ln_66 : ip_ln 66 = 12 := by decide +kernel
theorem tg_67 : ip_tg 67 = some 100 := by decide +kernel
theorem ln_67 : ip_ln 67 = 12 := by decide +kernel
theorem tg_68 : ip_tg 68 = some 6 := by decide +kernel
theorem tg_69 : ip_tg 69 = some 100 := by decide +kernel
theorem ln_69 : ip_ln 69 = 200 := by decide +kernel
theorem tg_70 : ip_tg 70 = some 3 := by decide +kernel
theorem tg_71 : ip_tg 71 = some 100 := by decide +kernel
theorem ln_71 : ip_ln 71 = 24 := by decide +kernel
theorem tg_72 : ip_tg 72 = some 100 := by decide +kernel
theorem ln_72 : ip_ln 72 = 96 := by decide +kernel
theorem tg_73 : ip_tg 73 = some 205 := by decide +kernel
theorem ln_73 : ip_ln 73 = 3 := by decide +kernel
theorem tg_74 : ip_tg 74 = some 1 := by decide +kernel
theorem tg_75 : ip_tg 75 = some 100 := by decide +kernel
theorem ln_75 : ip_ln 75 = 12 := by decide +kernel
theorem tg_76 : ip_tg 76 = some 100 := by decide +kernel
theorem ln_76 : ip_ln 76 = 6 := by decide +kernel
theorem tg_77 : ip_tg 77 = some 100 := by decide +kernel
theorem ln_77 : ip_ln 77 = 12 := by decide +kernel
theorem tg_78 : ip_tg 78 = some 100 := by decide +kernel
theorem ln_78 : ip_ln 78 = 12 := by decide +kernel
theorem tg_79 : ip_tg 79 = some 100 := by decide +kernel
theorem ln_79 : ip_ln 79 = 12 := by decide +kernel
theorem tg_80 : ip_tg 80 = some 1 := by decide +kernel
theorem tg_81 : ip_tg 81 = some 100 := by decide +kernel
theorem ln_81 : ip_ln 81 = 12 := by decide +kernel
theorem tg_82 : ip_tg 82 = some 100 := by decide +kernel
theorem ln_82 : ip_ln 82 = 6 := by decide +kernel
theorem tg_83 : ip_tg 83 = some 100 := by decide +kernel
theorem ln_83 : ip_ln 83 = 12 := by decide +kernel
theorem tg_84 : ip_tg 84 = some 100 := by decide +kernel
theorem ln_84 : ip_ln 84 = 12 := by decide +kernel
theorem tg_85 : ip_tg 85 = some 100 := by decide +kernel
theorem ln_85 : ip_ln 85 = 12 := by decide +kernel
theorem tg_86 : ip_tg 86 = some 5 := by decide +kernel
theorem tg_87 : ip_tg 87 = some 100 := by decide +kernel
theorem ln_87 : ip_ln 87 = 8 := by decide +kernel
theorem tg_88 : ip_tg 88 = some 5 := by decide +kernel
theorem tg_89 : ip_tg 89 = some 100 := by decide +kernel
theorem ln_89 : ip_ln 89 = 8 := by decide +kernel
theorem tg_90 : ip_tg 90 = some 5 := by decide +kernel
theorem tg_91 : ip_tg 91 = some 100 := by decide +kernel
theorem ln_91 : ip_ln 91 = 8 := by decide +kernel
theorem tg_92 : ip_tg 92 = some 8 := by decide +kernel
theorem tg_93 : ip_tg 93 = some 100 := by decide +kernel
theorem ln_93 : ip_ln 93 = 638 := by decide +kernel
theorem tg_94 : ip_tg 94 = some 100 := by decide +kernel
theorem ln_94 : ip_ln 94 = 12 := by decide +kernel
theorem tg_95 : ip_tg 95 = some 101 := by decide +kernel
theorem ln_95 : ip_ln 95 = 2 := by decide +kernel
theorem tg_96 : ip_tg 96 = some 100 := by decide +kernel
theorem ln_96 : ip_ln 96 = 200 := by decide +kernel
theorem tg_97 : ip_tg 97 = some 100 := by decide +kernel
theorem ln_97 : ip_ln 97 = 3 := by decide +kernel
theorem tg_98 : ip_tg 98 = some 100 := by decide +kernel
theorem ln_98 : ip_ln 98 = 24 := by decide +kernel
theorem tg_99 : ip_tg 99 = some 100 := by decide +kernel
theorem ln_99 : ip_ln 99 = 6 := by decide +kernel
theorem tg_100 : ip_tg 100 = some 100 := by decide +kernel
theorem ln_100 : ip_ln 100 = 4 := by decide +kernel
theorem tg_101 : ip_tg 101 = some 100 := by decide +kernel
theorem ln_101 : ip_ln 101 = 40 := by decide +kernel
theorem tg_102 : ip_tg 102 = some 100 := by decide +kernel
theorem ln_102 : ip_ln 102 = 6 := by decide +kernel
theorem rr_ring {j : Nat} (h : j < 8) : ip_rr 14 j = 15 + 6 * j := (by decide +kernel : ∀ j, j < 8 → ip_rr 14 j = 15 + 6 * j) j h
theorem rr_kept {j : Nat} (h : j < 2) : ip_rr 11 j = 74 + 6 * j := (by decide +kernel : ∀ j, j < 2 → ip_rr 11 j = 74 + 6 * j) j h
theorem rr_spools {j : Nat} (h : j < 3) : ip_rr 73 j = 86 + 2 * j := (by decide +kernel : ∀ j, j < 3 → ip_rr 73 j = 86 + 2 * j) j h
theorem bz0 : nI 0 = 0 ∨ nI 0 = 1 := Or.inl (by decide +kernel)
theorem bz1 : nI 1 = 0 ∨ nI 1 = 1 := Or.inr (by decide +kernel)
theorem bzi {P : Prop} [Decidable P] : (if P then nI 1 else nI 0) = 0 ∨ (if P then nI 1 else nI 0) = 1 := by
  by_cases h : P
  · rw [if_pos h]; exact bz1
  · rw [if_neg h]; exact bz0
theorem u2_s (σ : ip_G) (k i : Nat) (v : Int32) : ip_u2 σ k i v k i = v := by simp [ip_u2]
theorem u2_k {σ : ip_G} {k i a b : Nat} {v : Int32} (h : ¬ a = k) : ip_u2 σ k i v a b = σ a b := by simp [ip_u2, h]
theorem u2_i {σ : ip_G} {k i a b : Nat} {v : Int32} (h : ¬ b = i) : ip_u2 σ k i v a b = σ a b := by simp [ip_u2, h]
theorem cp_s {σ : ip_G} {a b n i : Nat} (h : i < n) : ip_cp σ a b n a i = σ b i := by simp [ip_cp, h]
theorem cp_k {σ : ip_G} {a b n k i : Nat} (h : ¬ k = a) : ip_cp σ a b n k i = σ k i := by simp [ip_cp, h]
theorem cp_i {σ : ip_G} {a b n k i : Nat} (h : n ≤ i) : ip_cp σ a b n k i = σ k i := by simp [ip_cp, Nat.not_lt.mpr h]
/-- a number of the code is one of 0 .. n less 1 -/
def inr (x : Int32) (n : Nat) : Bool := decide (0 ≤ x.toInt ∧ x.toInt < (n : Int))
theorem inr_t {x : Int32} {n : Nat} (h : inr x n = true) : ∃ j : Nat, j < n ∧ x = nI j := by
  have h2 := of_decide_eq_true h
  refine ⟨x.toInt.toNat, by omega, ?_⟩
  apply Int32.toInt_inj.mp
  have hlt : x.toInt < 2 ^ 31 := Int32.toInt_lt x
  rw [nI_toInt (by omega)]
  omega
theorem inr_nI {j n : Nat} (h : j < n) (hn : n < 2147483648) : inr (nI j) n = true := by
  unfold inr
  rw [nI_toInt (by omega)]
  exact decide_eq_true ⟨by omega, by omega⟩
theorem ge0_iff {x : Int32} : 0 ≤ x ↔ 0 ≤ x.toInt := by rw [Int32.le_iff_toInt_le]; rfl
theorem lt0_iff {x : Int32} : x < 0 ↔ x.toInt < 0 := by rw [Int32.lt_iff_toInt_lt]; rfl
theorem ltn_iff {x : Int32} {n : Nat} (h : n < 2147483648) : x < nI n ↔ x.toInt < (n : Int) := by rw [Int32.lt_iff_toInt_lt, nI_toInt (by omega)]
theorem gen_iff {x : Int32} {n : Nat} (h : n < 2147483648) : nI n ≤ x ↔ (n : Int) ≤ x.toInt := by rw [Int32.le_iff_toInt_le, nI_toInt (by omega)]
theorem gtn_iff {x : Int32} {n : Nat} (h : n < 2147483648) : nI n < x ↔ (n : Int) < x.toInt := by rw [Int32.lt_iff_toInt_lt, nI_toInt (by omega)]
theorem len_iff {x : Int32} {n : Nat} (h : n < 2147483648) : x ≤ nI n ↔ x.toInt ≤ (n : Int) := by rw [Int32.le_iff_toInt_le, nI_toInt (by omega)]
