/-! DRAFTS (class): copied, turned, remembered -/
theorem u2_f {σ : ip_G} {k i a : Nat} {v : Int32} (h : ¬ a = k) : ip_u2 σ k i v a = σ a := by
  funext b
  simp [ip_u2, h]
theorem isD_apart {d o : Nat} (hd : isD d) (ho : isD o) (h : d ≠ o) : d + 6 ≤ o ∨ o + 6 ≤ d := by
  unfold isD at hd ho
  omega
theorem c_copyFrom (E : ip_E) {σ : ip_G} {d o : Nat} (hd : isD d) (ho : isD o) (hne : d ≠ o) {D : Nat → Nat} (hC : CD σ o D) (hW : WD D) (κ : Option Value → ip_G → Prop) (hk : ∀ σ', CD σ' d D → frD σ σ' d → κ none σ') : wp E 65 0 [.ref d, .ref o] [] σ κ := by
  obtain ⟨⟨f1, f2, f3, f4, f5, f6⟩, ⟨g1, g2, g3, g4, g5⟩, ⟨l1, l2, l3, l4, l5⟩⟩ := isD_f hd
  obtain ⟨⟨f1', f2', f3', f4', f5', f6'⟩, ⟨g1', g2', g3', g4', g5'⟩, ⟨l1', l2', l3', l4', l5'⟩⟩ := isD_f ho
  have ha := isD_apart hd ho hne
  obtain ⟨c0, c1, c2, c3, c4, c5⟩ := hC
  have w := hW.1
  have q1 : (12 : Nat) ≤ ip_ln (d + 1) := by omega
  have q2 : (6 : Nat) ≤ ip_ln (d + 2) := by omega
  have q3 : (12 : Nat) ≤ ip_ln (d + 3) := by omega
  have q4 : (12 : Nat) ≤ ip_ln (d + 4) := by omega
  have q5 : (12 : Nat) ≤ ip_ln (d + 5) := by omega
  have r1 : (12 : Nat) ≤ ip_ln (o + 1) := by omega
  have r2 : (6 : Nat) ≤ ip_ln (o + 2) := by omega
  have r3 : (12 : Nat) ≤ ip_ln (o + 3) := by omega
  have r4 : (12 : Nat) ≤ ip_ln (o + 4) := by omega
  have r5 : (12 : Nat) ≤ ip_ln (o + 5) := by omega
  simp (disch := first | assumption | exact bz0 | exact bz1 | exact bzi | omega | decide +kernel) only [I_65_0, I_65_1, I_65_2, I_65_5, I_65_8, I_65_9, I_65_10, I_65_13, I_65_16, I_65_17, I_65_18, I_65_21, I_65_24, I_65_25, I_65_26, I_65_29, I_65_32, I_65_33, I_65_36, I_65_37, I_65_38, I_65_41, I_65_42, I_65_44, I_65_47, I_65_48, I_65_51, I_65_52, I_65_53, I_65_56, I_65_57, I_65_59, I_65_62, I_65_63, I_65_66, I_65_67, I_65_68, I_65_71, I_65_72, I_65_74, I_65_77, I_65_78, I_65_81, I_65_82, I_65_83, I_65_86, I_65_87, I_65_89, I_65_92, I_65_93, I_65_96, I_65_97, I_65_98, I_65_101, I_65_102, I_65_104, I_65_107, f2, f3, f4, f5, f6, f2', f3', f4', f5', f6', u2_k]
  have n0 : ¬ o = d := fun z => hne z.symm
  apply hk
  · refine ⟨fun j hj => ?_, fun i hi => ?_, fun i hi => ?_, fun i hi => ?_, fun i hi => ?_, fun i hi => ?_⟩
    · have hj2 : j = 0 ∨ j = 1 ∨ j = 2 ∨ j = 3 := by omega
      have a1 : ¬ d = d + 1 := by omega
      have a2 : ¬ d = d + 2 := by omega
      have a3 : ¬ d = d + 3 := by omega
      have a4 : ¬ d = d + 4 := by omega
      have a5 : ¬ d = d + 5 := by omega
      rcases hj2 with rfl | rfl | rfl | rfl <;> simp [ip_cp, ip_u2, c0]
    · have z : ∀ a, a < 6 → ∀ b, b < 6 → ¬ o + a = d + b := fun a ha2 b hb => by omega
      have z0 : ∀ a, a < 6 → ¬ o + a = d := fun a ha2 => by omega
      simp [ip_cp, ip_u2, hi, z 1 (by omega) 1 (by omega), z0 1 (by omega), c1 i hi]
    · have z : ∀ a, a < 6 → ∀ b, b < 6 → ¬ o + a = d + b := fun a ha2 b hb => by omega
      have z0 : ∀ a, a < 6 → ¬ o + a = d := fun a ha2 => by omega
      have hi6 : i < 6 := by omega
      simp [ip_cp, ip_u2, hi6, z 2 (by omega) 1 (by omega), z0 2 (by omega), c2 i hi]
    · have z : ∀ a, a < 6 → ∀ b, b < 6 → ¬ o + a = d + b := fun a ha2 b hb => by omega
      have z0 : ∀ a, a < 6 → ¬ o + a = d := fun a ha2 => by omega
      simp [ip_cp, ip_u2, hi, z 3 (by omega) 1 (by omega), z 3 (by omega) 2 (by omega), z0 3 (by omega), c3 i hi]
    · have z : ∀ a, a < 6 → ∀ b, b < 6 → ¬ o + a = d + b := fun a ha2 b hb => by omega
      have z0 : ∀ a, a < 6 → ¬ o + a = d := fun a ha2 => by omega
      simp [ip_cp, ip_u2, hi, z 4 (by omega) 1 (by omega), z 4 (by omega) 2 (by omega), z 4 (by omega) 3 (by omega), z0 4 (by omega), c4 i hi]
    · have z : ∀ a, a < 6 → ∀ b, b < 6 → ¬ o + a = d + b := fun a ha2 b hb => by omega
      have z0 : ∀ a, a < 6 → ¬ o + a = d := fun a ha2 => by omega
      simp [ip_cp, ip_u2, hi, z 5 (by omega) 1 (by omega), z 5 (by omega) 2 (by omega), z 5 (by omega) 3 (by omega), z 5 (by omega) 4 (by omega), z0 5 (by omega), c5 i hi]
  · intro k hk2
    funext a
    have z0 : ¬ k = d := by omega
    have z1 : ¬ k = d + 1 := by omega
    have z2 : ¬ k = d + 2 := by omega
    have z3 : ¬ k = d + 3 := by omega
    have z4 : ¬ k = d + 4 := by omega
    have z5 : ¬ k = d + 5 := by omega
    simp [ip_cp, ip_u2, z0, z1, z2, z3, z4, z5]
/-- the class's past: n drafts, from the oldest on -/
def CP (σ : ip_G) (n : Nat) (P : Nat → Nat → Nat) : Prop := n ≤ 8 ∧ σ 13 2 = nI n ∧ (∃ o, o < 8 ∧ σ 13 1 = nI o ∧ ∀ i, i < n → CD σ (15 + 6 * ((o + i) % 8)) (P i)) ∧ ∀ i, i < n → WD (P i)
/-- one more is remembered -/
def pN (n : Nat) : Nat := if n = 8 then 8 else n + 1
def pP (n : Nat) (P : Nat → Nat → Nat) (D : Nat → Nat) : Nat → Nat → Nat := fun i => if n = 8 then (if i = 7 then D else P (i + 1)) else (if i = n then D else P i)
theorem isD_ring {j : Nat} (h : j < 8) : isD (15 + 6 * j) := by
  unfold isD
  omega
/-- past and ring alone -/
def frP (σ σ' : ip_G) : Prop := ∀ k : Nat, (k < 13 ∨ 63 ≤ k ∨ k = 14) → σ' k = σ k
theorem c_remember (E : ip_E) {σ : ip_G} {n : Nat} {P : Nat → Nat → Nat} {D : Nat → Nat} (hP : CP σ n P) (hC : CD σ 2 D) (hW : WD D) (κ : Option Value → ip_G → Prop) (hk : ∀ σ' d, CP σ' (pN n) (pP n P D) → frP σ σ' → isD d → d ≠ 2 → CD σ' d D → κ (some (.ref d)) σ') : wp E 64 0 [.ref 13, .ref 2, .retAddr 0] [] σ κ := by
  obtain ⟨hn, e2, ⟨o, ho, e1, hr⟩, hPW⟩ := hP
  by_cases h8 : n = 8
  · subst h8
    have hm : ((o + 1) % 8 + 7) % 8 < 8 := Nat.mod_lt _ (by omega)
    have tgr := (isD_f (isD_ring hm)).1.1
    have ee : ∀ v, ip_u2 (ip_u2 σ 13 1 v) 13 2 (nI 7) 13 2 = nI 7 := fun v => by simp [ip_u2]
    simp (disch := first | assumption | exact bz0 | exact bz1 | exact bzi | omega | decide +kernel) only [I_64_0, I_64_1, I_64_4, I_64_6, I_64_9, I_64_10, I_64_11, I_64_14, I_64_15, I_64_16, I_64_18, I_64_19, I_64_22, I_64_23, I_64_24, I_64_27, I_64_28, I_64_29, I_64_32, I_64_33, I_64_36, I_64_37, I_64_40, I_64_41, I_64_44, I_64_45, I_64_47, I_64_48, I_64_49, I_64_50, I_64_51, I_64_52, I_64_55, I_64_56, I_64_57, I_64_60, I_64_61, I_64_62, I_64_65, I_64_66, rr_0_0, rr_0_1, rr_0_2, rr_0_3, rr_0_4, rr_0_5, rr_0_6, rr_0_7, rr_0_8, rr_1_0, rr_1_1, rr_1_2, rr_1_3, rr_2_4, rr_2_5, rr_2_6, rr_2_7, rr_2_8, rr_13_0, rr_15_4, rr_15_5, rr_15_6, rr_15_7, rr_15_8, rr_21_4, rr_21_5, rr_21_6, rr_21_7, rr_21_8, rr_27_4, rr_27_5, rr_27_6, rr_27_7, rr_27_8, rr_33_4, rr_33_5, rr_33_6, rr_33_7, rr_33_8, rr_39_4, rr_39_5, rr_39_6, rr_39_7, rr_39_8, rr_45_4, rr_45_5, rr_45_6, rr_45_7, rr_45_8, rr_51_4, rr_51_5, rr_51_6, rr_51_7, rr_51_8, rr_57_4, rr_57_5, rr_57_6, rr_57_7, rr_57_8, rr_63_2, rr_63_3, rr_63_4, rr_63_5, rr_68_0, rr_70_1, rr_70_2, rr_74_4, rr_74_5, rr_74_6, rr_74_7, rr_74_8, rr_80_4, rr_80_5, rr_80_6, rr_80_7, rr_80_8, rr_86_2, rr_88_2, rr_90_2, rr_92_0, rr_92_1, rr_92_5, rr_92_6, rr_92_8, rr_92_9, rr_92_12, rr_92_15, rr_92_16, rr_92_17, e1, e2, not_true_eq_false, ↓reduceIte, nI_add, u2_i, u2_k, u2_s, pk_sub (show (1 : Nat) ≤ 8 by omega), show 8 - 1 = 7 from rfl, rr_ring]
    refine c_copyFrom E (isD_ring hm) (Or.inl rfl) (by omega) (CD_fr hC (fun k h1 h2 => by rw [u2_f (by omega), u2_f (by omega)])) hW _ (fun σ' h1 h2 => ?_)
    have g0 : σ' 13 = _ := h2 13 (by omega)
    have s2 : σ' 13 2 = nI 7 := by rw [g0]; simp [ip_u2]
    have s1 : σ' 13 1 = nI ((o + 1) % 8) := by rw [g0]; simp [ip_u2]
    simp (disch := first | assumption | exact bz0 | exact bz1 | exact bzi | omega | decide +kernel) only [I_64_0, I_64_1, I_64_4, I_64_6, I_64_9, I_64_10, I_64_11, I_64_14, I_64_15, I_64_16, I_64_18, I_64_19, I_64_22, I_64_23, I_64_24, I_64_27, I_64_28, I_64_29, I_64_32, I_64_33, I_64_36, I_64_37, I_64_40, I_64_41, I_64_44, I_64_45, I_64_47, I_64_48, I_64_49, I_64_50, I_64_51, I_64_52, I_64_55, I_64_56, I_64_57, I_64_60, I_64_61, I_64_62, I_64_65, I_64_66, Option.toList_none, List.nil_append, s2, nI_add]
    refine hk _ _ ⟨by simp [pN], by simp [ip_u2, pN], ⟨(o + 1) % 8, Nat.mod_lt _ (by omega), by simp [ip_u2, s1], fun i hi => ?_⟩, fun i hi => ?_⟩ (fun k hk2 => ?_) (isD_ring hm) (by omega) (CD_fr h1 (fun k h3 h4 => by rw [u2_f (by omega)]))
    · have hi8 : i < 8 := by simpa [pN] using hi
      by_cases h7 : i = 7
      · subst h7
        refine CD_fr (D := pP 8 P D 7) (by simpa [pP] using h1) (fun k h3 h4 => by rw [u2_f (by omega)])
      · have hc := hr (i + 1) (by omega)
        have hx : (o + (i + 1)) % 8 = ((o + 1) % 8 + i) % 8 := by omega
        rw [hx] at hc
        refine CD_fr (D := pP 8 P D i) (by simpa [pP, h7] using hc) (fun k h3 h4 => ?_)
        have hne : ((o + 1) % 8 + i) % 8 ≠ ((o + 1) % 8 + 7) % 8 := by omega
        have hne2 : k < 15 + 6 * (((o + 1) % 8 + 7) % 8) ∨ 15 + 6 * (((o + 1) % 8 + 7) % 8) + 6 ≤ k := by omega
        rw [u2_f (by omega), h2 k hne2, u2_f (by omega), u2_f (by omega)]
    · have hi8 : i < 8 := by simpa [pN] using hi
      by_cases h7 : i = 7
      · subst h7
        simpa [pP] using hW
      · simpa [pP, h7] using hPW (i + 1) (by omega)
    · have hne2 : k < 15 + 6 * (((o + 1) % 8 + 7) % 8) ∨ 15 + 6 * (((o + 1) % 8 + 7) % 8) + 6 ≤ k := by omega
      rw [u2_f (by omega), h2 k hne2, u2_f (by omega), u2_f (by omega)]
  · have hc8 : ¬ nI n = nI 8 := fun z => h8 ((nI_eq (by omega) (by omega)).mp z)
    have hm : (o + n) % 8 < 8 := Nat.mod_lt _ (by omega)
    have tgr := (isD_f (isD_ring hm)).1.1
    simp (disch := first | assumption | exact bz0 | exact bz1 | exact bzi | omega | decide +kernel) only [I_64_0, I_64_1, I_64_4, I_64_6, I_64_9, I_64_10, I_64_11, I_64_14, I_64_15, I_64_16, I_64_18, I_64_19, I_64_22, I_64_23, I_64_24, I_64_27, I_64_28, I_64_29, I_64_32, I_64_33, I_64_36, I_64_37, I_64_40, I_64_41, I_64_44, I_64_45, I_64_47, I_64_48, I_64_49, I_64_50, I_64_51, I_64_52, I_64_55, I_64_56, I_64_57, I_64_60, I_64_61, I_64_62, I_64_65, I_64_66, rr_0_0, rr_0_1, rr_0_2, rr_0_3, rr_0_4, rr_0_5, rr_0_6, rr_0_7, rr_0_8, rr_1_0, rr_1_1, rr_1_2, rr_1_3, rr_2_4, rr_2_5, rr_2_6, rr_2_7, rr_2_8, rr_13_0, rr_15_4, rr_15_5, rr_15_6, rr_15_7, rr_15_8, rr_21_4, rr_21_5, rr_21_6, rr_21_7, rr_21_8, rr_27_4, rr_27_5, rr_27_6, rr_27_7, rr_27_8, rr_33_4, rr_33_5, rr_33_6, rr_33_7, rr_33_8, rr_39_4, rr_39_5, rr_39_6, rr_39_7, rr_39_8, rr_45_4, rr_45_5, rr_45_6, rr_45_7, rr_45_8, rr_51_4, rr_51_5, rr_51_6, rr_51_7, rr_51_8, rr_57_4, rr_57_5, rr_57_6, rr_57_7, rr_57_8, rr_63_2, rr_63_3, rr_63_4, rr_63_5, rr_68_0, rr_70_1, rr_70_2, rr_74_4, rr_74_5, rr_74_6, rr_74_7, rr_74_8, rr_80_4, rr_80_5, rr_80_6, rr_80_7, rr_80_8, rr_86_2, rr_88_2, rr_90_2, rr_92_0, rr_92_1, rr_92_5, rr_92_6, rr_92_8, rr_92_9, rr_92_12, rr_92_15, rr_92_16, rr_92_17, e1, e2, hc8, not_false_eq_true, ↓reduceIte, nI_add, rr_ring]
    refine c_copyFrom E (isD_ring hm) (Or.inl rfl) (by omega) hC hW _ (fun σ' h1 h2 => ?_)
    have g0 : σ' 13 = σ 13 := h2 13 (by omega)
    have s2 : σ' 13 2 = nI n := by rw [g0]; exact e2
    have s1 : σ' 13 1 = nI o := by rw [g0]; exact e1
    simp (disch := first | assumption | exact bz0 | exact bz1 | exact bzi | omega | decide +kernel) only [I_64_0, I_64_1, I_64_4, I_64_6, I_64_9, I_64_10, I_64_11, I_64_14, I_64_15, I_64_16, I_64_18, I_64_19, I_64_22, I_64_23, I_64_24, I_64_27, I_64_28, I_64_29, I_64_32, I_64_33, I_64_36, I_64_37, I_64_40, I_64_41, I_64_44, I_64_45, I_64_47, I_64_48, I_64_49, I_64_50, I_64_51, I_64_52, I_64_55, I_64_56, I_64_57, I_64_60, I_64_61, I_64_62, I_64_65, I_64_66, Option.toList_none, List.nil_append, s2, nI_add]
    have pn : pN n = n + 1 := by simp [pN, h8]
    refine hk _ _ ⟨by rw [pn]; omega, by simp [ip_u2, pn], ⟨o, ho, by simp [ip_u2, s1], fun i hi => ?_⟩, fun i hi => ?_⟩ (fun k hk2 => ?_) (isD_ring hm) (by omega) (CD_fr h1 (fun k h3 h4 => by rw [u2_f (by omega)]))
    · rw [pn] at hi
      by_cases h7 : i = n
      · subst h7
        refine CD_fr (D := pP i P D i) (by simpa [pP, h8] using h1) (fun k h3 h4 => by rw [u2_f (by omega)])
      · have hc := hr i (by omega)
        refine CD_fr (D := pP n P D i) (by simpa [pP, h7, h8] using hc) (fun k h3 h4 => ?_)
        have hne : (o + i) % 8 ≠ (o + n) % 8 := by omega
        have hne2 : k < 15 + 6 * ((o + n) % 8) ∨ 15 + 6 * ((o + n) % 8) + 6 ≤ k := by omega
        rw [u2_f (by omega), h2 k hne2]
    · rw [pn] at hi
      by_cases h7 : i = n
      · subst h7
        simpa [pP, h8] using hW
      · simpa [pP, h7, h8] using hPW i (by omega)
    · have hne2 : k < 15 + 6 * ((o + n) % 8) ∨ 15 + 6 * ((o + n) % 8) + 6 ≤ k := by omega
      rw [u2_f (by omega), h2 k hne2]
