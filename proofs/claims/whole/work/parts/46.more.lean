/-! DRAFTS (class): turned, taken back, changed about, idle, alike, repeats -/
def tnN (D : Nat → Nat) (j : Nat) : Nat := if j = 0 then D 1 else if j = 1 then D 0 else if j = 2 then D 3 else if j = 3 then D 2 else if j < 16 then D (22 + (j - 4)) else if j < 22 then bits (trd D (j - 16)) (D 3) else if j < 34 then D (4 + (j - 22)) else if j < 46 then D (46 + (j - 34)) else D (34 + (j - 46))
theorem tn4 (D : Nat → Nat) {i : Nat} (h : i < 12) : tnN D (4 + i) = D (22 + i) := by
  unfold tnN
  rw [if_neg (by omega), if_neg (by omega), if_neg (by omega), if_neg (by omega), if_pos (by omega), Nat.add_sub_cancel_left]
theorem tn16 (D : Nat → Nat) {i : Nat} (h : i < 6) : tnN D (16 + i) = bits (trd D i) (D 3) := by
  unfold tnN
  rw [if_neg (by omega), if_neg (by omega), if_neg (by omega), if_neg (by omega), if_neg (by omega), if_pos (by omega), Nat.add_sub_cancel_left]
theorem tn22 (D : Nat → Nat) {i : Nat} (h : i < 12) : tnN D (22 + i) = D (4 + i) := by
  unfold tnN
  rw [if_neg (by omega), if_neg (by omega), if_neg (by omega), if_neg (by omega), if_neg (by omega), if_neg (by omega), if_pos (by omega), Nat.add_sub_cancel_left]
theorem tn34 (D : Nat → Nat) {i : Nat} (h : i < 12) : tnN D (34 + i) = D (46 + i) := by
  unfold tnN
  rw [if_neg (by omega), if_neg (by omega), if_neg (by omega), if_neg (by omega), if_neg (by omega), if_neg (by omega), if_neg (by omega), if_pos (by omega), Nat.add_sub_cancel_left]
theorem tn46 (D : Nat → Nat) {i : Nat} (h : i < 12) : tnN D (46 + i) = D (34 + i) := by
  unfold tnN
  rw [if_neg (by omega), if_neg (by omega), if_neg (by omega), if_neg (by omega), if_neg (by omega), if_neg (by omega), if_neg (by omega), if_neg (by omega), Nat.add_sub_cancel_left]
theorem tnN_W {D : Nat → Nat} (h : WD D) : WD (tnN D) := by
  obtain ⟨⟨w0, w1, w2, w3, w4, w5, w6, w7⟩, w8, w9, w10, w11, w12⟩ := h
  refine ⟨⟨w2, w3, w0, w1, w6, w7, w4, w5⟩, fun i hi => ?_, fun i hi => ?_, fun i hi => ?_, fun i hi => ?_, fun i hi => ?_⟩
  · rw [tn4 D hi]; exact w10 i hi
  · have hi2 : i < D 2 := hi
    rw [tn16 D (by omega)]; exact bits_lt _ _
  · rw [tn22 D hi]; exact w8 i hi
  · rw [tn34 D hi]; exact w12 i hi
  · rw [tn46 D hi]; exact w11 i hi
def tnI (σ σ' : ip_G) (D : Nat → Nat) (i : Nat) : Prop := (∀ j, j < i → σ' 4 j = nI (bits (trd D j) (D 3))) ∧ ∀ k, k ≠ 4 → σ' k = σ k
theorem L_turnFrom (E : ip_E) {σ : ip_G} {o : Nat} (ho : isD o) (hne : o ≠ 2) {D : Nat → Nat} (hC : CD σ o D) (hW : WD D) (e3 : σ 2 3 = nI (D 2)) (κ : Option Value → ip_G → Prop) : ∀ (k i : Nat) (σ' : ip_G), i + k = D 2 → tnI σ σ' D i → (∀ σ2, tnI σ σ2 D (D 2) → κ none σ2) → wp E 79 94 [.ref 2, .ref o, .int (nI i)] [] σ' κ := by
  have w := hW.1
  have ha := isD_apart ho (Or.inl rfl) hne
  have f1' := (isD_f ho).1.1
  intro k
  induction k with
  | zero =>
    intro i σ' hi hI hk
    have hi2 : i = D 2 := by omega
    have z3 : σ' 2 3 = nI (D 2) := by rw [hI.2 2 (by omega)]; exact e3
    have hc : nI (D 2) ≤ nI i := nI_le (by omega) (by omega)
    simp (disch := first | assumption | exact bz0 | exact bz1 | exact bzi | omega | decide +kernel) only [I_79_0, I_79_1, I_79_2, I_79_5, I_79_8, I_79_9, I_79_10, I_79_13, I_79_16, I_79_17, I_79_18, I_79_21, I_79_24, I_79_25, I_79_26, I_79_29, I_79_32, I_79_33, I_79_36, I_79_37, I_79_38, I_79_41, I_79_42, I_79_44, I_79_47, I_79_48, I_79_51, I_79_52, I_79_53, I_79_56, I_79_57, I_79_59, I_79_62, I_79_63, I_79_66, I_79_67, I_79_68, I_79_71, I_79_72, I_79_74, I_79_77, I_79_78, I_79_81, I_79_82, I_79_83, I_79_86, I_79_87, I_79_89, I_79_92, I_79_93, I_79_94, I_79_95, I_79_96, I_79_99, I_79_102, I_79_103, I_79_106, I_79_107, I_79_108, I_79_109, I_79_112, I_79_113, I_79_116, I_79_119, rr_0_0, rr_0_1, rr_0_2, rr_0_3, rr_0_4, rr_0_5, rr_0_6, rr_0_7, rr_0_8, rr_1_0, rr_1_1, rr_1_2, rr_1_3, rr_2_4, rr_2_5, rr_2_6, rr_2_7, rr_2_8, rr_13_0, rr_15_4, rr_15_5, rr_15_6, rr_15_7, rr_15_8, rr_21_4, rr_21_5, rr_21_6, rr_21_7, rr_21_8, rr_27_4, rr_27_5, rr_27_6, rr_27_7, rr_27_8, rr_33_4, rr_33_5, rr_33_6, rr_33_7, rr_33_8, rr_39_4, rr_39_5, rr_39_6, rr_39_7, rr_39_8, rr_45_4, rr_45_5, rr_45_6, rr_45_7, rr_45_8, rr_51_4, rr_51_5, rr_51_6, rr_51_7, rr_51_8, rr_57_4, rr_57_5, rr_57_6, rr_57_7, rr_57_8, rr_63_2, rr_63_3, rr_63_4, rr_63_5, rr_68_0, rr_70_1, rr_70_2, rr_74_4, rr_74_5, rr_74_6, rr_74_7, rr_74_8, rr_80_4, rr_80_5, rr_80_6, rr_80_7, rr_80_8, rr_86_2, rr_88_2, rr_90_2, rr_92_0, rr_92_1, rr_92_5, rr_92_6, rr_92_8, rr_92_9, rr_92_12, rr_92_15, rr_92_16, rr_92_17, z3, hc, ↓reduceIte]
    exact hk σ' (by rw [← hi2]; exact hI)
  | succ k ih =>
    intro i σ' hi hI hk
    have z3 : σ' 2 3 = nI (D 2) := by rw [hI.2 2 (by omega)]; exact e3
    have hc : ¬ nI (D 2) ≤ nI i := nI_ge (by omega) (by omega)
    have hC' : CD σ' o D := CD_fr hC (fun k h1 h2 => hI.2 k (by omega))
    rw [I_79_94]
    simp (disch := first | assumption | exact bz0 | exact bz1 | exact bzi | omega | decide +kernel) only [I_79_0, I_79_1, I_79_2, I_79_5, I_79_8, I_79_9, I_79_10, I_79_13, I_79_16, I_79_17, I_79_18, I_79_21, I_79_24, I_79_25, I_79_26, I_79_29, I_79_32, I_79_33, I_79_36, I_79_37, I_79_38, I_79_41, I_79_42, I_79_44, I_79_47, I_79_48, I_79_51, I_79_52, I_79_53, I_79_56, I_79_57, I_79_59, I_79_62, I_79_63, I_79_66, I_79_67, I_79_68, I_79_71, I_79_72, I_79_74, I_79_77, I_79_78, I_79_81, I_79_82, I_79_83, I_79_86, I_79_87, I_79_89, I_79_92, I_79_93, I_79_95, I_79_96, I_79_99, I_79_102, I_79_103, I_79_106, I_79_107, I_79_108, I_79_109, I_79_112, I_79_113, I_79_116, I_79_119, rr_0_0, rr_0_1, rr_0_2, rr_0_3, rr_0_4, rr_0_5, rr_0_6, rr_0_7, rr_0_8, rr_1_0, rr_1_1, rr_1_2, rr_1_3, rr_2_4, rr_2_5, rr_2_6, rr_2_7, rr_2_8, rr_13_0, rr_15_4, rr_15_5, rr_15_6, rr_15_7, rr_15_8, rr_21_4, rr_21_5, rr_21_6, rr_21_7, rr_21_8, rr_27_4, rr_27_5, rr_27_6, rr_27_7, rr_27_8, rr_33_4, rr_33_5, rr_33_6, rr_33_7, rr_33_8, rr_39_4, rr_39_5, rr_39_6, rr_39_7, rr_39_8, rr_45_4, rr_45_5, rr_45_6, rr_45_7, rr_45_8, rr_51_4, rr_51_5, rr_51_6, rr_51_7, rr_51_8, rr_57_4, rr_57_5, rr_57_6, rr_57_7, rr_57_8, rr_63_2, rr_63_3, rr_63_4, rr_63_5, rr_68_0, rr_70_1, rr_70_2, rr_74_4, rr_74_5, rr_74_6, rr_74_7, rr_74_8, rr_80_4, rr_80_5, rr_80_6, rr_80_7, rr_80_8, rr_86_2, rr_88_2, rr_90_2, rr_92_0, rr_92_1, rr_92_5, rr_92_6, rr_92_8, rr_92_9, rr_92_12, rr_92_15, rr_92_16, rr_92_17, z3, hc, ↓reduceIte, c_treadlesOf E ho hC' hW (show i < 12 by omega), Option.toList_some, List.cons_append, List.nil_append, nI_add]
    refine ih (i + 1) _ (by omega) ⟨fun j hj => ?_, fun b h1 => ?_⟩ hk
    · by_cases e : j = i
      · subst e
        simp [ip_u2]
      · have hh := hI.1 j (by omega)
        simp [ip_u2, e, hh]
    · rw [← hI.2 b h1, u2_f h1]
theorem cp_f {σ : ip_G} {a b n k : Nat} (h : ¬ k = a) : ip_cp σ a b n k = σ k := by
  funext i
  simp [ip_cp, h]
theorem c_turnFrom (E : ip_E) {σ : ip_G} {o : Nat} (ho : isD o) (hne : o ≠ 2) {D : Nat → Nat} (hC : CD σ o D) (hW : WD D) (κ : Option Value → ip_G → Prop) (hk : ∀ σ', CD σ' 2 (tnN D) → frD σ σ' 2 → κ none σ') : wp E 79 0 [.ref 2, .ref o, .retAddr 0] [] σ κ := by
  obtain ⟨⟨f1', f2', f3', f4', f5', f6'⟩, ⟨g1', g2', g3', g4', g5'⟩, ⟨l1', l2', l3', l4', l5'⟩⟩ := isD_f ho
  have ha := isD_apart ho (Or.inl rfl) hne
  have w := hW.1
  have r1 : (12 : Nat) ≤ ip_ln (o + 1) := by omega
  have r3 : (12 : Nat) ≤ ip_ln (o + 3) := by omega
  have r4 : (12 : Nat) ≤ ip_ln (o + 4) := by omega
  have r5 : (12 : Nat) ≤ ip_ln (o + 5) := by omega
  have q3 : (12 : Nat) ≤ ip_ln 3 := by decide +kernel
  have q5 : (12 : Nat) ≤ ip_ln 5 := by decide +kernel
  have q6 : (12 : Nat) ≤ ip_ln 6 := by decide +kernel
  have q7 : (12 : Nat) ≤ ip_ln 7 := by decide +kernel
  simp (disch := first | assumption | exact bz0 | exact bz1 | exact bzi | omega | decide +kernel) only [I_79_0, I_79_1, I_79_2, I_79_5, I_79_8, I_79_9, I_79_10, I_79_13, I_79_16, I_79_17, I_79_18, I_79_21, I_79_24, I_79_25, I_79_26, I_79_29, I_79_32, I_79_33, I_79_36, I_79_37, I_79_38, I_79_41, I_79_42, I_79_44, I_79_47, I_79_48, I_79_51, I_79_52, I_79_53, I_79_56, I_79_57, I_79_59, I_79_62, I_79_63, I_79_66, I_79_67, I_79_68, I_79_71, I_79_72, I_79_74, I_79_77, I_79_78, I_79_81, I_79_82, I_79_83, I_79_86, I_79_87, I_79_89, I_79_92, I_79_93, I_79_95, I_79_96, I_79_99, I_79_102, I_79_103, I_79_106, I_79_107, I_79_108, I_79_109, I_79_112, I_79_113, I_79_116, I_79_119, rr_0_0, rr_0_1, rr_0_2, rr_0_3, rr_0_4, rr_0_5, rr_0_6, rr_0_7, rr_0_8, rr_1_0, rr_1_1, rr_1_2, rr_1_3, rr_2_4, rr_2_5, rr_2_6, rr_2_7, rr_2_8, rr_13_0, rr_15_4, rr_15_5, rr_15_6, rr_15_7, rr_15_8, rr_21_4, rr_21_5, rr_21_6, rr_21_7, rr_21_8, rr_27_4, rr_27_5, rr_27_6, rr_27_7, rr_27_8, rr_33_4, rr_33_5, rr_33_6, rr_33_7, rr_33_8, rr_39_4, rr_39_5, rr_39_6, rr_39_7, rr_39_8, rr_45_4, rr_45_5, rr_45_6, rr_45_7, rr_45_8, rr_51_4, rr_51_5, rr_51_6, rr_51_7, rr_51_8, rr_57_4, rr_57_5, rr_57_6, rr_57_7, rr_57_8, rr_63_2, rr_63_3, rr_63_4, rr_63_5, rr_68_0, rr_70_1, rr_70_2, rr_74_4, rr_74_5, rr_74_6, rr_74_7, rr_74_8, rr_80_4, rr_80_5, rr_80_6, rr_80_7, rr_80_8, rr_86_2, rr_88_2, rr_90_2, rr_92_0, rr_92_1, rr_92_5, rr_92_6, rr_92_8, rr_92_9, rr_92_12, rr_92_15, rr_92_16, rr_92_17, f2', f3', f4', f5', f6', u2_k]
  have hC2 := hC
  obtain ⟨c0, c1, c2, c3, c4, c5⟩ := hC
  refine L_turnFrom E ho hne (D := D) (CD_fr hC2 (fun k h1 h2 => ?_)) hW ?_ κ (D 2) 0 _ (by omega) ⟨fun j hj => absurd hj (by omega), fun _ _ => rfl⟩ ?_
  · rw [cp_f (by omega), cp_f (by omega), cp_f (by omega), cp_f (by omega), u2_f (by omega), u2_f (by omega), u2_f (by omega), u2_f (by omega)]
  · simp [ip_cp, ip_u2, c0]
  · intro σ2 h2
    apply hk
    · refine ⟨fun j hj => ?_, fun i hi => ?_, fun i hi => ?_, fun i hi => ?_, fun i hi => ?_, fun i hi => ?_⟩
      · rw [h2.2 2 (by omega)]
        have hj2 : j = 0 ∨ j = 1 ∨ j = 2 ∨ j = 3 := by omega
        rcases hj2 with rfl | rfl | rfl | rfl <;> simp [ip_cp, ip_u2, c0, tnN]
      · rw [h2.2 3 (by omega), tn4 D hi]
        have z1 : ¬ o + 3 = 2 := by omega
        simp [ip_cp, ip_u2, hi, z1, c3 i hi]
      · have hi2 : i < D 2 := hi
        rw [h2.1 i hi2, tn16 D (by omega)]
      · rw [h2.2 5 (by omega), tn22 D hi]
        have z1 : ¬ o + 1 = 2 := by omega
        have z2 : ¬ o + 1 = 3 := by omega
        simp [ip_cp, ip_u2, hi, z1, z2, c1 i hi]
      · rw [h2.2 6 (by omega), tn34 D hi]
        have z1 : ¬ o + 5 = 2 := by omega
        have z2 : ¬ o + 5 = 3 := by omega
        have z3 : ¬ o = 0 := by omega
        simp [ip_cp, ip_u2, hi, z1, z2, z3, c5 i hi]
      · rw [h2.2 7 (by omega), tn46 D hi]
        have z1 : ¬ o + 4 = 2 := by omega
        have z2 : ¬ o + 4 = 3 := by omega
        have z3 : ¬ o + 4 = 5 := by omega
        have z4 : ¬ o + 4 = 6 := by omega
        simp [ip_cp, ip_u2, hi, z1, z2, z3, z4, c4 i hi]
    · intro k hk2
      rw [h2.2 k (by omega), cp_f (by omega), cp_f (by omega), cp_f (by omega), cp_f (by omega), u2_f (by omega), u2_f (by omega), u2_f (by omega), u2_f (by omega)]
theorem c_takeLatest (E : ip_E) {σ : ip_G} {n : Nat} {P : Nat → Nat → Nat} (hP : CP σ (n + 1) P) (κ : Option Value → ip_G → Prop) (hk : ∀ σ' d, CP σ' n P → frP σ σ' → isD d → d ≠ 2 → CD σ' d (P n) → κ (some (.ref d)) σ') : wp E 82 0 [.ref 13] [] σ κ := by
  obtain ⟨hn, e2, ⟨o, ho, e1, hr⟩, hPW⟩ := hP
  have hm : (o + n) % 8 < 8 := Nat.mod_lt _ (by omega)
  simp (disch := first | assumption | exact bz0 | exact bz1 | exact bzi | omega | decide +kernel) only [I_82_0, I_82_1, I_82_2, I_82_5, I_82_6, I_82_7, I_82_10, I_82_11, I_82_14, I_82_15, I_82_18, I_82_19, I_82_22, I_82_23, I_82_25, I_82_26, I_82_27, rr_0_0, rr_0_1, rr_0_2, rr_0_3, rr_0_4, rr_0_5, rr_0_6, rr_0_7, rr_0_8, rr_1_0, rr_1_1, rr_1_2, rr_1_3, rr_2_4, rr_2_5, rr_2_6, rr_2_7, rr_2_8, rr_13_0, rr_15_4, rr_15_5, rr_15_6, rr_15_7, rr_15_8, rr_21_4, rr_21_5, rr_21_6, rr_21_7, rr_21_8, rr_27_4, rr_27_5, rr_27_6, rr_27_7, rr_27_8, rr_33_4, rr_33_5, rr_33_6, rr_33_7, rr_33_8, rr_39_4, rr_39_5, rr_39_6, rr_39_7, rr_39_8, rr_45_4, rr_45_5, rr_45_6, rr_45_7, rr_45_8, rr_51_4, rr_51_5, rr_51_6, rr_51_7, rr_51_8, rr_57_4, rr_57_5, rr_57_6, rr_57_7, rr_57_8, rr_63_2, rr_63_3, rr_63_4, rr_63_5, rr_68_0, rr_70_1, rr_70_2, rr_74_4, rr_74_5, rr_74_6, rr_74_7, rr_74_8, rr_80_4, rr_80_5, rr_80_6, rr_80_7, rr_80_8, rr_86_2, rr_88_2, rr_90_2, rr_92_0, rr_92_1, rr_92_5, rr_92_6, rr_92_8, rr_92_9, rr_92_12, rr_92_15, rr_92_16, rr_92_17, e1, e2, nI_add, u2_i, u2_s, pk_sub (show (1 : Nat) ≤ n + 1 by omega), Nat.add_sub_cancel, rr_ring]
  refine hk _ _ ⟨by omega, by simp [ip_u2], ⟨o, ho, by simp [ip_u2, e1], fun i hi => CD_fr (hr i (by omega)) (fun k h1 h2 => by rw [u2_f (by omega)])⟩, fun i hi => hPW i (by omega)⟩ (fun k h => by rw [u2_f (by omega)]) (isD_ring hm) (by omega) (CD_fr (hr n (by omega)) (fun k h1 h2 => by rw [u2_f (by omega)]))
theorem c_forget (E : ip_E) {σ : ip_G} {n : Nat} {P : Nat → Nat → Nat} (hP : CP σ n P) (κ : Option Value → ip_G → Prop) (hk : ∀ σ', CP σ' 0 P → frP σ σ' → κ none σ') : wp E 44 0 [.ref 13] [] σ κ := by
  obtain ⟨hn, e2, ⟨o, ho, e1, hr⟩, hPW⟩ := hP
  simp (disch := first | assumption | exact bz0 | exact bz1 | exact bzi | omega | decide +kernel) only [I_44_0, I_44_1, I_44_2, I_44_5]
  exact hk _ ⟨by omega, by simp [ip_u2], ⟨o, ho, by simp [ip_u2, e1], fun i hi => absurd hi (by omega)⟩, fun i hi => absurd hi (by omega)⟩ (fun k h => by rw [u2_f (by omega)])
/-- two ends on each other's shaft -/
def swD (D : Nat → Nat) (a b : Nat) : Nat → Nat := fun j => if j = 4 + a then D (4 + b) else if j = 4 + b then D (4 + a) else D j
theorem swD_W {D : Nat → Nat} {a b : Nat} (ha : a < 12) (hb : b < 12) (h : WD D) : WD (swD D a b) := by
  obtain ⟨w, w8, w9, w10, w11, w12⟩ := h
  have z : ∀ j, 16 ≤ j → swD D a b j = D j := fun j hj => by unfold swD; rw [if_neg (by omega), if_neg (by omega)]
  have z0 : ∀ j, j < 4 → swD D a b j = D j := fun j hj => by unfold swD; rw [if_neg (by omega), if_neg (by omega)]
  unfold WD
  rw [z0 0 (by omega), z0 1 (by omega), z0 2 (by omega), z0 3 (by omega)]
  refine ⟨w, fun i hi => ?_, fun i hi => ?_, fun i hi => ?_, fun i hi => ?_, fun i hi => ?_⟩
  · unfold swD
    split
    · exact w8 b hb
    · split
      · exact w8 a ha
      · exact w8 i hi
  · rw [z _ (by omega)]; exact w9 i hi
  · rw [z _ (by omega)]; exact w10 i hi
  · rw [z _ (by omega)]; exact w11 i hi
  · rw [z _ (by omega)]; exact w12 i hi
theorem c_changeAbout (E : ip_E) {σ : ip_G} {a b : Nat} (ha : a < 12) (hb : b < 12) {D : Nat → Nat} (hC : CD σ 2 D) (κ : Option Value → ip_G → Prop) (hk : ∀ σ', CD σ' 2 (swD D a b) → (∀ k, k ≠ 3 → σ' k = σ k) → κ none σ') : wp E 91 0 [.ref 2, .int (nI a), .int (nI b), .retAddr 0] [] σ κ := by
  obtain ⟨c0, c1, c2, c3, c4, c5⟩ := hC
  have z : ∀ j, 16 ≤ j → swD D a b j = D j := fun j hj => by unfold swD; rw [if_neg (by omega), if_neg (by omega)]
  have z0 : ∀ j, j < 4 → swD D a b j = D j := fun j hj => by unfold swD; rw [if_neg (by omega), if_neg (by omega)]
  simp (disch := first | assumption | exact bz0 | exact bz1 | exact bzi | omega | decide +kernel) only [I_91_0, I_91_1, I_91_4, I_91_5, I_91_6, I_91_7, I_91_8, I_91_11, I_91_12, I_91_13, I_91_16, I_91_17, I_91_18, I_91_19, I_91_20, I_91_23, I_91_24, I_91_25, I_91_26, rr_0_0, rr_0_1, rr_0_2, rr_0_3, rr_0_4, rr_0_5, rr_0_6, rr_0_7, rr_0_8, rr_1_0, rr_1_1, rr_1_2, rr_1_3, rr_2_4, rr_2_5, rr_2_6, rr_2_7, rr_2_8, rr_13_0, rr_15_4, rr_15_5, rr_15_6, rr_15_7, rr_15_8, rr_21_4, rr_21_5, rr_21_6, rr_21_7, rr_21_8, rr_27_4, rr_27_5, rr_27_6, rr_27_7, rr_27_8, rr_33_4, rr_33_5, rr_33_6, rr_33_7, rr_33_8, rr_39_4, rr_39_5, rr_39_6, rr_39_7, rr_39_8, rr_45_4, rr_45_5, rr_45_6, rr_45_7, rr_45_8, rr_51_4, rr_51_5, rr_51_6, rr_51_7, rr_51_8, rr_57_4, rr_57_5, rr_57_6, rr_57_7, rr_57_8, rr_63_2, rr_63_3, rr_63_4, rr_63_5, rr_68_0, rr_70_1, rr_70_2, rr_74_4, rr_74_5, rr_74_6, rr_74_7, rr_74_8, rr_80_4, rr_80_5, rr_80_6, rr_80_7, rr_80_8, rr_86_2, rr_88_2, rr_90_2, rr_92_0, rr_92_1, rr_92_5, rr_92_6, rr_92_8, rr_92_9, rr_92_12, rr_92_15, rr_92_16, rr_92_17]
  apply hk
  · refine ⟨fun j hj => ?_, fun i hi => ?_, fun i hi => ?_, fun i hi => ?_, fun i hi => ?_, fun i hi => ?_⟩
    · rw [u2_f (by omega), u2_f (by omega), z0 j hj]; exact c0 j hj
    · have ea := c1 a ha
      have eb := c1 b hb
      have ei := c1 i hi
      show ip_u2 (ip_u2 σ 3 a (σ 3 b)) 3 b (σ 3 a) 3 i = nI (swD D a b (4 + i))
      unfold swD
      by_cases h1 : i = b
      · subst h1
        rw [u2_s]
        by_cases h2 : i = a
        · subst h2; rw [if_pos rfl]; exact ea
        · rw [if_neg (by omega), if_pos rfl]; exact ea
      · rw [u2_i h1]
        by_cases h2 : i = a
        · subst h2; rw [u2_s, if_pos rfl]; exact eb
        · rw [u2_i h2, if_neg (by omega), if_neg (by omega)]; exact ei
    · rw [z0 3 (by omega)] at hi
      rw [u2_f (by omega), u2_f (by omega), z _ (by omega)]; exact c2 i hi
    · rw [u2_f (by omega), u2_f (by omega), z _ (by omega)]; exact c3 i hi
    · rw [u2_f (by omega), u2_f (by omega), z _ (by omega)]; exact c4 i hi
    · rw [u2_f (by omega), u2_f (by omega), z _ (by omega)]; exact c5 i hi
  · intro k hk2
    rw [u2_f hk2, u2_f hk2]
/-- what is left of a set of n when those that g tells are taken out -/
def idI (g : Nat → Nat) (n : Nat) : Nat → Int32
  | 0 => nI 1 <<< (nI n &&& 31) - nI 1
  | k + 1 => idI g n k &&& (nI 1 <<< (nI (g k) &&& 31) ^^^ (-1))
theorem L_idleShafts (E : ip_E) {σ : ip_G} {D : Nat → Nat} (hC : CD σ 2 D) (hW : WD D) (κ : Option Value → ip_G → Prop) : ∀ (k i : Nat), i + k = D 0 → wp E 118 10 [.ref 2, .int (idI (fun i => D (4 + i)) (D 2) i), .int (nI i)] [] σ κ = κ (some (.int (idI (fun i => D (4 + i)) (D 2) (D 0)))) σ := by
  have e0 := hC.1 0 (by omega)
  have w := hW.1
  intro k
  induction k with
  | zero =>
    intro i hi
    have hc : nI (D 0) ≤ nI i := nI_le (by omega) (by omega)
    have hi2 : i = D 0 := by omega
    simp (disch := first | assumption | exact bz0 | exact bz1 | exact bzi | omega | decide +kernel) only [I_118_0, I_118_1, I_118_4, I_118_7, I_118_8, I_118_9, I_118_10, I_118_11, I_118_12, I_118_15, I_118_18, I_118_19, I_118_20, I_118_21, I_118_24, I_118_25, I_118_26, I_118_27, I_118_28, I_118_29, I_118_30, I_118_31, I_118_34, I_118_37, I_118_38, rr_0_0, rr_0_1, rr_0_2, rr_0_3, rr_0_4, rr_0_5, rr_0_6, rr_0_7, rr_0_8, rr_1_0, rr_1_1, rr_1_2, rr_1_3, rr_2_4, rr_2_5, rr_2_6, rr_2_7, rr_2_8, rr_13_0, rr_15_4, rr_15_5, rr_15_6, rr_15_7, rr_15_8, rr_21_4, rr_21_5, rr_21_6, rr_21_7, rr_21_8, rr_27_4, rr_27_5, rr_27_6, rr_27_7, rr_27_8, rr_33_4, rr_33_5, rr_33_6, rr_33_7, rr_33_8, rr_39_4, rr_39_5, rr_39_6, rr_39_7, rr_39_8, rr_45_4, rr_45_5, rr_45_6, rr_45_7, rr_45_8, rr_51_4, rr_51_5, rr_51_6, rr_51_7, rr_51_8, rr_57_4, rr_57_5, rr_57_6, rr_57_7, rr_57_8, rr_63_2, rr_63_3, rr_63_4, rr_63_5, rr_68_0, rr_70_1, rr_70_2, rr_74_4, rr_74_5, rr_74_6, rr_74_7, rr_74_8, rr_80_4, rr_80_5, rr_80_6, rr_80_7, rr_80_8, rr_86_2, rr_88_2, rr_90_2, rr_92_0, rr_92_1, rr_92_5, rr_92_6, rr_92_8, rr_92_9, rr_92_12, rr_92_15, rr_92_16, rr_92_17, e0, hc, ↓reduceIte]
    rw [hi2]
  | succ k ih =>
    intro i hi
    have hc : ¬ nI (D 0) ≤ nI i := nI_ge (by omega) (by omega)
    have e1 : σ 3 i = nI (D (4 + i)) := hC.2.1 i (by omega)
    rw [I_118_10]
    simp (disch := first | assumption | exact bz0 | exact bz1 | exact bzi | omega | decide +kernel) only [I_118_0, I_118_1, I_118_4, I_118_7, I_118_8, I_118_9, I_118_11, I_118_12, I_118_15, I_118_18, I_118_19, I_118_20, I_118_21, I_118_24, I_118_25, I_118_26, I_118_27, I_118_28, I_118_29, I_118_30, I_118_31, I_118_34, I_118_37, I_118_38, rr_0_0, rr_0_1, rr_0_2, rr_0_3, rr_0_4, rr_0_5, rr_0_6, rr_0_7, rr_0_8, rr_1_0, rr_1_1, rr_1_2, rr_1_3, rr_2_4, rr_2_5, rr_2_6, rr_2_7, rr_2_8, rr_13_0, rr_15_4, rr_15_5, rr_15_6, rr_15_7, rr_15_8, rr_21_4, rr_21_5, rr_21_6, rr_21_7, rr_21_8, rr_27_4, rr_27_5, rr_27_6, rr_27_7, rr_27_8, rr_33_4, rr_33_5, rr_33_6, rr_33_7, rr_33_8, rr_39_4, rr_39_5, rr_39_6, rr_39_7, rr_39_8, rr_45_4, rr_45_5, rr_45_6, rr_45_7, rr_45_8, rr_51_4, rr_51_5, rr_51_6, rr_51_7, rr_51_8, rr_57_4, rr_57_5, rr_57_6, rr_57_7, rr_57_8, rr_63_2, rr_63_3, rr_63_4, rr_63_5, rr_68_0, rr_70_1, rr_70_2, rr_74_4, rr_74_5, rr_74_6, rr_74_7, rr_74_8, rr_80_4, rr_80_5, rr_80_6, rr_80_7, rr_80_8, rr_86_2, rr_88_2, rr_90_2, rr_92_0, rr_92_1, rr_92_5, rr_92_6, rr_92_8, rr_92_9, rr_92_12, rr_92_15, rr_92_16, rr_92_17, e0, e1, hc, ↓reduceIte, nI_add]
    exact ih (i + 1) (by omega)
theorem c_idleShafts (E : ip_E) {σ : ip_G} {D : Nat → Nat} (hC : CD σ 2 D) (hW : WD D) (κ : Option Value → ip_G → Prop) : wp E 118 0 [.ref 2, .retAddr 0, .retAddr 0] [] σ κ = κ (some (.int (idI (fun i => D (4 + i)) (D 2) (D 0)))) σ := by
  have e2 := hC.1 2 (by omega)
  simp (disch := first | assumption | exact bz0 | exact bz1 | exact bzi | omega | decide +kernel) only [I_118_0, I_118_1, I_118_4, I_118_7, I_118_8, I_118_9, I_118_11, I_118_12, I_118_15, I_118_18, I_118_19, I_118_20, I_118_21, I_118_24, I_118_25, I_118_26, I_118_27, I_118_28, I_118_29, I_118_30, I_118_31, I_118_34, I_118_37, I_118_38, e2, c_lowest, Option.toList_some, List.cons_append, List.nil_append]
  exact L_idleShafts E hC hW κ (D 0) 0 (by omega)
theorem L_idleTreadles (E : ip_E) {σ : ip_G} {D : Nat → Nat} (hC : CD σ 2 D) (hW : WD D) (κ : Option Value → ip_G → Prop) : ∀ (k i : Nat), i + k = D 1 → wp E 119 10 [.ref 2, .int (idI (fun i => D (22 + i)) (D 3) i), .int (nI i)] [] σ κ = κ (some (.int (idI (fun i => D (22 + i)) (D 3) (D 1)))) σ := by
  have e0 := hC.1 1 (by omega)
  have w := hW.1
  intro k
  induction k with
  | zero =>
    intro i hi
    have hc : nI (D 1) ≤ nI i := nI_le (by omega) (by omega)
    have hi2 : i = D 1 := by omega
    simp (disch := first | assumption | exact bz0 | exact bz1 | exact bzi | omega | decide +kernel) only [I_119_0, I_119_1, I_119_4, I_119_7, I_119_8, I_119_9, I_119_10, I_119_11, I_119_12, I_119_15, I_119_18, I_119_19, I_119_20, I_119_21, I_119_24, I_119_25, I_119_26, I_119_27, I_119_28, I_119_29, I_119_30, I_119_31, I_119_34, I_119_37, I_119_38, rr_0_0, rr_0_1, rr_0_2, rr_0_3, rr_0_4, rr_0_5, rr_0_6, rr_0_7, rr_0_8, rr_1_0, rr_1_1, rr_1_2, rr_1_3, rr_2_4, rr_2_5, rr_2_6, rr_2_7, rr_2_8, rr_13_0, rr_15_4, rr_15_5, rr_15_6, rr_15_7, rr_15_8, rr_21_4, rr_21_5, rr_21_6, rr_21_7, rr_21_8, rr_27_4, rr_27_5, rr_27_6, rr_27_7, rr_27_8, rr_33_4, rr_33_5, rr_33_6, rr_33_7, rr_33_8, rr_39_4, rr_39_5, rr_39_6, rr_39_7, rr_39_8, rr_45_4, rr_45_5, rr_45_6, rr_45_7, rr_45_8, rr_51_4, rr_51_5, rr_51_6, rr_51_7, rr_51_8, rr_57_4, rr_57_5, rr_57_6, rr_57_7, rr_57_8, rr_63_2, rr_63_3, rr_63_4, rr_63_5, rr_68_0, rr_70_1, rr_70_2, rr_74_4, rr_74_5, rr_74_6, rr_74_7, rr_74_8, rr_80_4, rr_80_5, rr_80_6, rr_80_7, rr_80_8, rr_86_2, rr_88_2, rr_90_2, rr_92_0, rr_92_1, rr_92_5, rr_92_6, rr_92_8, rr_92_9, rr_92_12, rr_92_15, rr_92_16, rr_92_17, e0, hc, ↓reduceIte]
    rw [hi2]
  | succ k ih =>
    intro i hi
    have hc : ¬ nI (D 1) ≤ nI i := nI_ge (by omega) (by omega)
    have e1 : σ 5 i = nI (D (22 + i)) := hC.2.2.2.1 i (by omega)
    rw [I_119_10]
    simp (disch := first | assumption | exact bz0 | exact bz1 | exact bzi | omega | decide +kernel) only [I_119_0, I_119_1, I_119_4, I_119_7, I_119_8, I_119_9, I_119_11, I_119_12, I_119_15, I_119_18, I_119_19, I_119_20, I_119_21, I_119_24, I_119_25, I_119_26, I_119_27, I_119_28, I_119_29, I_119_30, I_119_31, I_119_34, I_119_37, I_119_38, rr_0_0, rr_0_1, rr_0_2, rr_0_3, rr_0_4, rr_0_5, rr_0_6, rr_0_7, rr_0_8, rr_1_0, rr_1_1, rr_1_2, rr_1_3, rr_2_4, rr_2_5, rr_2_6, rr_2_7, rr_2_8, rr_13_0, rr_15_4, rr_15_5, rr_15_6, rr_15_7, rr_15_8, rr_21_4, rr_21_5, rr_21_6, rr_21_7, rr_21_8, rr_27_4, rr_27_5, rr_27_6, rr_27_7, rr_27_8, rr_33_4, rr_33_5, rr_33_6, rr_33_7, rr_33_8, rr_39_4, rr_39_5, rr_39_6, rr_39_7, rr_39_8, rr_45_4, rr_45_5, rr_45_6, rr_45_7, rr_45_8, rr_51_4, rr_51_5, rr_51_6, rr_51_7, rr_51_8, rr_57_4, rr_57_5, rr_57_6, rr_57_7, rr_57_8, rr_63_2, rr_63_3, rr_63_4, rr_63_5, rr_68_0, rr_70_1, rr_70_2, rr_74_4, rr_74_5, rr_74_6, rr_74_7, rr_74_8, rr_80_4, rr_80_5, rr_80_6, rr_80_7, rr_80_8, rr_86_2, rr_88_2, rr_90_2, rr_92_0, rr_92_1, rr_92_5, rr_92_6, rr_92_8, rr_92_9, rr_92_12, rr_92_15, rr_92_16, rr_92_17, e0, e1, hc, ↓reduceIte, nI_add]
    exact ih (i + 1) (by omega)
theorem c_idleTreadles (E : ip_E) {σ : ip_G} {D : Nat → Nat} (hC : CD σ 2 D) (hW : WD D) (κ : Option Value → ip_G → Prop) : wp E 119 0 [.ref 2, .retAddr 0, .retAddr 0] [] σ κ = κ (some (.int (idI (fun i => D (22 + i)) (D 3) (D 1)))) σ := by
  have e2 := hC.1 3 (by omega)
  simp (disch := first | assumption | exact bz0 | exact bz1 | exact bzi | omega | decide +kernel) only [I_119_0, I_119_1, I_119_4, I_119_7, I_119_8, I_119_9, I_119_11, I_119_12, I_119_15, I_119_18, I_119_19, I_119_20, I_119_21, I_119_24, I_119_25, I_119_26, I_119_27, I_119_28, I_119_29, I_119_30, I_119_31, I_119_34, I_119_37, I_119_38, e2, c_lowest, Option.toList_some, List.cons_append, List.nil_append]
  exact L_idleTreadles E hC hW κ (D 1) 0 (by omega)
/-- two shafts do the same -/
def alk (D : Nat → Nat) (a b : Nat) : Bool := decide (bits (trd D a) (D 3) = bits (trd D b) (D 3))
/-- pairs, the lesser outside: those of a, from j on, k more -/
def aIn (D : Nat → Nat) (a : Nat) : Nat → Nat → Nat
  | 0, _ => 0
  | k + 1, j => b2n (alk D a j) + aIn D a k (j + 1)
def aOut (D : Nat → Nat) (n : Nat) : Nat → Nat → Nat
  | 0, _ => 0
  | k + 1, a => aIn D a (n - (a + 1)) (a + 1) + aOut D n k (a + 1)
theorem bits64 {f : Nat → Bool} {n : Nat} (h : n ≤ 6) : bits f n < 64 := Nat.lt_of_lt_of_le (bits_lt f n) (Nat.le_trans (Nat.pow_le_pow_right (by decide) h) (by decide))
theorem L_pairs1 (E : ip_E) {σ : ip_G} {D : Nat → Nat} (hC : CD σ 2 D) (hW : WD D) (a : Nat) (ha : a < D 2) (κ : Option Value → ip_G → Prop) : ∀ (k j c : Nat), j + k = D 2 → a < j → wp E 117 16 [.ref 2, .int (nI c), .int (nI a), .int (nI j)] [] σ κ = wp E 117 46 [.ref 2, .int (nI (c + aIn D a k j)), .int (nI a), .int (nI (D 2))] [] σ κ := by
  have e2 := hC.1 2 (by omega)
  have w := hW.1
  intro k
  induction k with
  | zero =>
    intro j c hj hl
    have hc : nI (D 2) ≤ nI j := nI_le (by omega) (by omega)
    have hj2 : j = D 2 := by omega
    simp (disch := first | assumption | exact bz0 | exact bz1 | exact bzi | omega | decide +kernel) only [I_117_0, I_117_1, I_117_2, I_117_3, I_117_5, I_117_6, I_117_9, I_117_12, I_117_13, I_117_14, I_117_15, I_117_16, I_117_17, I_117_18, I_117_21, I_117_24, I_117_25, I_117_26, I_117_29, I_117_30, I_117_31, I_117_34, I_117_37, I_117_40, I_117_43, I_117_49, I_117_52, I_117_53, rr_0_0, rr_0_1, rr_0_2, rr_0_3, rr_0_4, rr_0_5, rr_0_6, rr_0_7, rr_0_8, rr_1_0, rr_1_1, rr_1_2, rr_1_3, rr_2_4, rr_2_5, rr_2_6, rr_2_7, rr_2_8, rr_13_0, rr_15_4, rr_15_5, rr_15_6, rr_15_7, rr_15_8, rr_21_4, rr_21_5, rr_21_6, rr_21_7, rr_21_8, rr_27_4, rr_27_5, rr_27_6, rr_27_7, rr_27_8, rr_33_4, rr_33_5, rr_33_6, rr_33_7, rr_33_8, rr_39_4, rr_39_5, rr_39_6, rr_39_7, rr_39_8, rr_45_4, rr_45_5, rr_45_6, rr_45_7, rr_45_8, rr_51_4, rr_51_5, rr_51_6, rr_51_7, rr_51_8, rr_57_4, rr_57_5, rr_57_6, rr_57_7, rr_57_8, rr_63_2, rr_63_3, rr_63_4, rr_63_5, rr_68_0, rr_70_1, rr_70_2, rr_74_4, rr_74_5, rr_74_6, rr_74_7, rr_74_8, rr_80_4, rr_80_5, rr_80_6, rr_80_7, rr_80_8, rr_86_2, rr_88_2, rr_90_2, rr_92_0, rr_92_1, rr_92_5, rr_92_6, rr_92_8, rr_92_9, rr_92_12, rr_92_15, rr_92_16, rr_92_17, e2, hc, ↓reduceIte, aIn, Nat.add_zero]
    rw [hj2]
  | succ k ih =>
    intro j c hj hl
    have hc : ¬ nI (D 2) ≤ nI j := nI_ge (by omega) (by omega)
    have b1 : bits (trd D a) (D 3) < 64 := bits64 (by omega)
    have b2 : bits (trd D j) (D 3) < 64 := bits64 (by omega)
    rw [I_117_16]
    simp (disch := first | assumption | exact bz0 | exact bz1 | exact bzi | omega | decide +kernel) only [I_117_0, I_117_1, I_117_2, I_117_3, I_117_5, I_117_6, I_117_9, I_117_12, I_117_13, I_117_14, I_117_15, I_117_17, I_117_18, I_117_21, I_117_24, I_117_25, I_117_26, I_117_29, I_117_30, I_117_31, I_117_34, I_117_37, I_117_40, I_117_43, I_117_49, I_117_52, I_117_53, rr_0_0, rr_0_1, rr_0_2, rr_0_3, rr_0_4, rr_0_5, rr_0_6, rr_0_7, rr_0_8, rr_1_0, rr_1_1, rr_1_2, rr_1_3, rr_2_4, rr_2_5, rr_2_6, rr_2_7, rr_2_8, rr_13_0, rr_15_4, rr_15_5, rr_15_6, rr_15_7, rr_15_8, rr_21_4, rr_21_5, rr_21_6, rr_21_7, rr_21_8, rr_27_4, rr_27_5, rr_27_6, rr_27_7, rr_27_8, rr_33_4, rr_33_5, rr_33_6, rr_33_7, rr_33_8, rr_39_4, rr_39_5, rr_39_6, rr_39_7, rr_39_8, rr_45_4, rr_45_5, rr_45_6, rr_45_7, rr_45_8, rr_51_4, rr_51_5, rr_51_6, rr_51_7, rr_51_8, rr_57_4, rr_57_5, rr_57_6, rr_57_7, rr_57_8, rr_63_2, rr_63_3, rr_63_4, rr_63_5, rr_68_0, rr_70_1, rr_70_2, rr_74_4, rr_74_5, rr_74_6, rr_74_7, rr_74_8, rr_80_4, rr_80_5, rr_80_6, rr_80_7, rr_80_8, rr_86_2, rr_88_2, rr_90_2, rr_92_0, rr_92_1, rr_92_5, rr_92_6, rr_92_8, rr_92_9, rr_92_12, rr_92_15, rr_92_16, rr_92_17, e2, hc, ↓reduceIte, c_treadlesOf E (Or.inl rfl) hC hW (show a < 12 by omega), c_treadlesOf E (Or.inl rfl) hC hW (show j < 12 by omega), Option.toList_some, List.cons_append, List.nil_append, nI_eq]
    by_cases h : bits (trd D a) (D 3) = bits (trd D j) (D 3)
    · have hk : alk D a j = true := decide_eq_true h
      simp (disch := first | assumption | exact bz0 | exact bz1 | exact bzi | omega | decide +kernel) only [I_117_0, I_117_1, I_117_2, I_117_3, I_117_5, I_117_6, I_117_9, I_117_12, I_117_13, I_117_14, I_117_15, I_117_17, I_117_18, I_117_21, I_117_24, I_117_25, I_117_26, I_117_29, I_117_30, I_117_31, I_117_34, I_117_37, I_117_40, I_117_43, I_117_49, I_117_52, I_117_53, h, not_true_eq_false, ↓reduceIte, nI_add]
      rw [ih (j + 1) (c + 1) (by omega) (by omega)]
      simp only [aIn, hk, b2n, ↓reduceIte, Nat.add_assoc]
    · have hk : alk D a j = false := decide_eq_false h
      simp (disch := first | assumption | exact bz0 | exact bz1 | exact bzi | omega | decide +kernel) only [I_117_0, I_117_1, I_117_2, I_117_3, I_117_5, I_117_6, I_117_9, I_117_12, I_117_13, I_117_14, I_117_15, I_117_17, I_117_18, I_117_21, I_117_24, I_117_25, I_117_26, I_117_29, I_117_30, I_117_31, I_117_34, I_117_37, I_117_40, I_117_43, I_117_49, I_117_52, I_117_53, h, not_false_eq_true, ↓reduceIte, nI_add]
      rw [ih (j + 1) c (by omega) (by omega)]
      simp only [aIn, hk, b2n, Bool.false_eq_true, ↓reduceIte, Nat.zero_add]
theorem L_pairs2 (E : ip_E) {σ : ip_G} {D : Nat → Nat} (hC : CD σ 2 D) (hW : WD D) (κ : Option Value → ip_G → Prop) : ∀ (k a c : Nat) (v : Value), a + k = D 2 → wp E 117 4 [.ref 2, .int (nI c), .int (nI a), v] [] σ κ = κ (some (.int (nI (c + aOut D (D 2) k a)))) σ := by
  have e2 := hC.1 2 (by omega)
  have w := hW.1
  intro k
  induction k with
  | zero =>
    intro a c v hj
    have hc : nI (D 2) ≤ nI a := nI_le (by omega) (by omega)
    simp (disch := first | assumption | exact bz0 | exact bz1 | exact bzi | omega | decide +kernel) only [I_117_0, I_117_1, I_117_2, I_117_3, I_117_4, I_117_5, I_117_6, I_117_9, I_117_12, I_117_13, I_117_14, I_117_15, I_117_16, I_117_17, I_117_18, I_117_21, I_117_24, I_117_25, I_117_26, I_117_29, I_117_30, I_117_31, I_117_34, I_117_37, I_117_40, I_117_43, I_117_46, I_117_49, I_117_52, I_117_53, rr_0_0, rr_0_1, rr_0_2, rr_0_3, rr_0_4, rr_0_5, rr_0_6, rr_0_7, rr_0_8, rr_1_0, rr_1_1, rr_1_2, rr_1_3, rr_2_4, rr_2_5, rr_2_6, rr_2_7, rr_2_8, rr_13_0, rr_15_4, rr_15_5, rr_15_6, rr_15_7, rr_15_8, rr_21_4, rr_21_5, rr_21_6, rr_21_7, rr_21_8, rr_27_4, rr_27_5, rr_27_6, rr_27_7, rr_27_8, rr_33_4, rr_33_5, rr_33_6, rr_33_7, rr_33_8, rr_39_4, rr_39_5, rr_39_6, rr_39_7, rr_39_8, rr_45_4, rr_45_5, rr_45_6, rr_45_7, rr_45_8, rr_51_4, rr_51_5, rr_51_6, rr_51_7, rr_51_8, rr_57_4, rr_57_5, rr_57_6, rr_57_7, rr_57_8, rr_63_2, rr_63_3, rr_63_4, rr_63_5, rr_68_0, rr_70_1, rr_70_2, rr_74_4, rr_74_5, rr_74_6, rr_74_7, rr_74_8, rr_80_4, rr_80_5, rr_80_6, rr_80_7, rr_80_8, rr_86_2, rr_88_2, rr_90_2, rr_92_0, rr_92_1, rr_92_5, rr_92_6, rr_92_8, rr_92_9, rr_92_12, rr_92_15, rr_92_16, rr_92_17, e2, hc, ↓reduceIte, aOut, Nat.add_zero]
  | succ k ih =>
    intro a c v hj
    have hc : ¬ nI (D 2) ≤ nI a := nI_ge (by omega) (by omega)
    rw [I_117_4]
    simp (disch := first | assumption | exact bz0 | exact bz1 | exact bzi | omega | decide +kernel) only [I_117_0, I_117_1, I_117_2, I_117_3, I_117_5, I_117_6, I_117_9, I_117_12, I_117_13, I_117_14, I_117_15, I_117_17, I_117_18, I_117_21, I_117_24, I_117_25, I_117_26, I_117_29, I_117_30, I_117_31, I_117_34, I_117_37, I_117_40, I_117_43, I_117_46, I_117_49, I_117_52, I_117_53, rr_0_0, rr_0_1, rr_0_2, rr_0_3, rr_0_4, rr_0_5, rr_0_6, rr_0_7, rr_0_8, rr_1_0, rr_1_1, rr_1_2, rr_1_3, rr_2_4, rr_2_5, rr_2_6, rr_2_7, rr_2_8, rr_13_0, rr_15_4, rr_15_5, rr_15_6, rr_15_7, rr_15_8, rr_21_4, rr_21_5, rr_21_6, rr_21_7, rr_21_8, rr_27_4, rr_27_5, rr_27_6, rr_27_7, rr_27_8, rr_33_4, rr_33_5, rr_33_6, rr_33_7, rr_33_8, rr_39_4, rr_39_5, rr_39_6, rr_39_7, rr_39_8, rr_45_4, rr_45_5, rr_45_6, rr_45_7, rr_45_8, rr_51_4, rr_51_5, rr_51_6, rr_51_7, rr_51_8, rr_57_4, rr_57_5, rr_57_6, rr_57_7, rr_57_8, rr_63_2, rr_63_3, rr_63_4, rr_63_5, rr_68_0, rr_70_1, rr_70_2, rr_74_4, rr_74_5, rr_74_6, rr_74_7, rr_74_8, rr_80_4, rr_80_5, rr_80_6, rr_80_7, rr_80_8, rr_86_2, rr_88_2, rr_90_2, rr_92_0, rr_92_1, rr_92_5, rr_92_6, rr_92_8, rr_92_9, rr_92_12, rr_92_15, rr_92_16, rr_92_17, e2, hc, ↓reduceIte, nI_add]
    rw [L_pairs1 E hC hW a (by omega) κ (D 2 - (a + 1)) (a + 1) c (by omega) (by omega)]
    simp (disch := first | assumption | exact bz0 | exact bz1 | exact bzi | omega | decide +kernel) only [I_117_0, I_117_1, I_117_2, I_117_3, I_117_5, I_117_6, I_117_9, I_117_12, I_117_13, I_117_14, I_117_15, I_117_17, I_117_18, I_117_21, I_117_24, I_117_25, I_117_26, I_117_29, I_117_30, I_117_31, I_117_34, I_117_37, I_117_40, I_117_43, I_117_46, I_117_49, I_117_52, I_117_53, nI_add]
    rw [ih (a + 1) _ _ (by omega)]
    simp only [aOut, Nat.add_assoc]
theorem c_pairsAlike (E : ip_E) {σ : ip_G} {D : Nat → Nat} (hC : CD σ 2 D) (hW : WD D) (κ : Option Value → ip_G → Prop) : wp E 117 0 [.ref 2, .retAddr 0, .retAddr 0, .retAddr 0] [] σ κ = κ (some (.int (nI (aOut D (D 2) (D 2) 0)))) σ := by
  simp only [I_117_0, I_117_1, I_117_2, I_117_3, I_117_5, I_117_6, I_117_9, I_117_12, I_117_13, I_117_14, I_117_15, I_117_16, I_117_17, I_117_18, I_117_21, I_117_24, I_117_25, I_117_26, I_117_29, I_117_30, I_117_31, I_117_34, I_117_37, I_117_40, I_117_43, I_117_46, I_117_49, I_117_52, I_117_53]
  rw [L_pairs2 E hC hW κ (D 2) 0 0 _ (by omega), Nat.zero_add]
/-- threads repeat after r, among n -/
def rpB (f : Nat → Nat) (n r : Nat) : Nat → Nat → Bool
  | 0, _ => true
  | k + 1, i => if f i = f (i + r) then rpB f n r k (i + 1) else false
def rpF (f : Nat → Nat) (n : Nat) : Nat → Nat → Nat
  | 0, r => r
  | k + 1, r => if rpB f n r (n - r) 0 = true then r else rpF f n k (r + 1)
theorem L_repeatsBy (E : ip_E) {σ : ip_G} {f : Nat → Nat} {n r : Nat} (hn : n ≤ 12) (hf : ∀ i, i < n → σ 8 i = nI (f i)) (hb : ∀ i, i < n → f i < 4096) (κ : Option Value → ip_G → Prop) : ∀ (k i : Nat), i + r + k = n → wp E 114 2 [.ref 1, .int (nI r), .int (nI n), .int (nI i)] [] σ κ = κ (some (.int (nI (b2n (rpB f n r k i))))) σ := by
  intro k
  induction k with
  | zero =>
    intro i hi
    have hc : nI n ≤ nI (i + r) := nI_le (by omega) (by omega)
    simp (disch := first | assumption | exact bz0 | exact bz1 | exact bzi | omega | decide +kernel) only [I_114_0, I_114_1, I_114_2, I_114_3, I_114_4, I_114_5, I_114_6, I_114_9, I_114_10, I_114_13, I_114_14, I_114_15, I_114_16, I_114_19, I_114_20, I_114_21, I_114_22, I_114_23, I_114_26, I_114_27, I_114_28, I_114_31, I_114_34, I_114_35, rr_0_0, rr_0_1, rr_0_2, rr_0_3, rr_0_4, rr_0_5, rr_0_6, rr_0_7, rr_0_8, rr_1_0, rr_1_1, rr_1_2, rr_1_3, rr_2_4, rr_2_5, rr_2_6, rr_2_7, rr_2_8, rr_13_0, rr_15_4, rr_15_5, rr_15_6, rr_15_7, rr_15_8, rr_21_4, rr_21_5, rr_21_6, rr_21_7, rr_21_8, rr_27_4, rr_27_5, rr_27_6, rr_27_7, rr_27_8, rr_33_4, rr_33_5, rr_33_6, rr_33_7, rr_33_8, rr_39_4, rr_39_5, rr_39_6, rr_39_7, rr_39_8, rr_45_4, rr_45_5, rr_45_6, rr_45_7, rr_45_8, rr_51_4, rr_51_5, rr_51_6, rr_51_7, rr_51_8, rr_57_4, rr_57_5, rr_57_6, rr_57_7, rr_57_8, rr_63_2, rr_63_3, rr_63_4, rr_63_5, rr_68_0, rr_70_1, rr_70_2, rr_74_4, rr_74_5, rr_74_6, rr_74_7, rr_74_8, rr_80_4, rr_80_5, rr_80_6, rr_80_7, rr_80_8, rr_86_2, rr_88_2, rr_90_2, rr_92_0, rr_92_1, rr_92_5, rr_92_6, rr_92_8, rr_92_9, rr_92_12, rr_92_15, rr_92_16, rr_92_17, nI_add, hc, ↓reduceIte, rpB, b2n]
  | succ k ih =>
    intro i hi
    have hc : ¬ nI n ≤ nI (i + r) := nI_ge (by omega) (by omega)
    have b1 := hb i (by omega)
    have b2 := hb (i + r) (by omega)
    rw [I_114_2]
    simp (disch := first | assumption | exact bz0 | exact bz1 | exact bzi | omega | decide +kernel) only [I_114_0, I_114_1, I_114_3, I_114_4, I_114_5, I_114_6, I_114_9, I_114_10, I_114_13, I_114_14, I_114_15, I_114_16, I_114_19, I_114_20, I_114_21, I_114_22, I_114_23, I_114_26, I_114_27, I_114_28, I_114_31, I_114_34, I_114_35, rr_0_0, rr_0_1, rr_0_2, rr_0_3, rr_0_4, rr_0_5, rr_0_6, rr_0_7, rr_0_8, rr_1_0, rr_1_1, rr_1_2, rr_1_3, rr_2_4, rr_2_5, rr_2_6, rr_2_7, rr_2_8, rr_13_0, rr_15_4, rr_15_5, rr_15_6, rr_15_7, rr_15_8, rr_21_4, rr_21_5, rr_21_6, rr_21_7, rr_21_8, rr_27_4, rr_27_5, rr_27_6, rr_27_7, rr_27_8, rr_33_4, rr_33_5, rr_33_6, rr_33_7, rr_33_8, rr_39_4, rr_39_5, rr_39_6, rr_39_7, rr_39_8, rr_45_4, rr_45_5, rr_45_6, rr_45_7, rr_45_8, rr_51_4, rr_51_5, rr_51_6, rr_51_7, rr_51_8, rr_57_4, rr_57_5, rr_57_6, rr_57_7, rr_57_8, rr_63_2, rr_63_3, rr_63_4, rr_63_5, rr_68_0, rr_70_1, rr_70_2, rr_74_4, rr_74_5, rr_74_6, rr_74_7, rr_74_8, rr_80_4, rr_80_5, rr_80_6, rr_80_7, rr_80_8, rr_86_2, rr_88_2, rr_90_2, rr_92_0, rr_92_1, rr_92_5, rr_92_6, rr_92_8, rr_92_9, rr_92_12, rr_92_15, rr_92_16, rr_92_17, nI_add, hc, ↓reduceIte, hf i (by omega), hf (i + r) (by omega), nI_eq]
    by_cases h : f i = f (i + r)
    · simp (disch := first | assumption | exact bz0 | exact bz1 | exact bzi | omega | decide +kernel) only [I_114_0, I_114_1, I_114_3, I_114_4, I_114_5, I_114_6, I_114_9, I_114_10, I_114_13, I_114_14, I_114_15, I_114_16, I_114_19, I_114_20, I_114_21, I_114_22, I_114_23, I_114_26, I_114_27, I_114_28, I_114_31, I_114_34, I_114_35, h, ↓reduceIte, nI_add]
      rw [ih (i + 1) (by omega)]
      simp only [rpB, h, ↓reduceIte]
    · simp (disch := first | assumption | exact bz0 | exact bz1 | exact bzi | omega | decide +kernel) only [I_114_0, I_114_1, I_114_3, I_114_4, I_114_5, I_114_6, I_114_9, I_114_10, I_114_13, I_114_14, I_114_15, I_114_16, I_114_19, I_114_20, I_114_21, I_114_22, I_114_23, I_114_26, I_114_27, I_114_28, I_114_31, I_114_34, I_114_35, h, ↓reduceIte, rpB, b2n, Bool.false_eq_true]
theorem L_repeatOf (E : ip_E) {σ : ip_G} {f : Nat → Nat} {n : Nat} (hn : n ≤ 12) (hf : ∀ i, i < n → σ 8 i = nI (f i)) (hb : ∀ i, i < n → f i < 4096) (κ : Option Value → ip_G → Prop) : ∀ (k r : Nat), r + k = n → wp E 113 2 [.ref 1, .int (nI n), .int (nI r)] [] σ κ = κ (some (.int (nI (rpF f n k r)))) σ := by
  intro k
  induction k with
  | zero =>
    intro r hr
    have hc : nI n ≤ nI r := nI_le (by omega) (by omega)
    have hr2 : r = n := by omega
    simp (disch := first | assumption | exact bz0 | exact bz1 | exact bzi | omega | decide +kernel) only [I_113_0, I_113_1, I_113_2, I_113_3, I_113_4, I_113_7, I_113_8, I_113_9, I_113_10, I_113_13, I_113_16, I_113_17, I_113_18, I_113_21, I_113_24, I_113_25, hc, ↓reduceIte, rpF]
    rw [hr2]
  | succ k ih =>
    intro r hr
    have hc : ¬ nI n ≤ nI r := nI_ge (by omega) (by omega)
    rw [I_113_2]
    simp (disch := first | assumption | exact bz0 | exact bz1 | exact bzi | omega | decide +kernel) only [I_113_0, I_113_1, I_113_3, I_113_4, I_113_7, I_113_8, I_113_9, I_113_10, I_113_13, I_113_16, I_113_17, I_113_18, I_113_21, I_113_24, I_113_25, hc, ↓reduceIte, I_114_0, I_114_1, I_114_3, I_114_4, I_114_5, I_114_6, I_114_9, I_114_10, I_114_13, I_114_14, I_114_15, I_114_16, I_114_19, I_114_20, I_114_21, I_114_22, I_114_23, I_114_26, I_114_27, I_114_28, I_114_31, I_114_34, I_114_35]
    rw [L_repeatsBy E hn hf hb _ (n - r) 0 (by omega)]
    cases h : rpB f n r (n - r) 0 with
    | true => simp (disch := first | assumption | exact bz0 | exact bz1 | exact bzi | omega | decide +kernel) only [I_113_0, I_113_1, I_113_3, I_113_4, I_113_7, I_113_8, I_113_9, I_113_10, I_113_13, I_113_16, I_113_17, I_113_18, I_113_21, I_113_24, I_113_25, Option.toList_some, List.cons_append, List.nil_append, b2n, show ¬ nI 1 = 0 from by decide +kernel, ↓reduceIte, rpF, h]
    | false =>
      simp (disch := first | assumption | exact bz0 | exact bz1 | exact bzi | omega | decide +kernel) only [I_113_0, I_113_1, I_113_3, I_113_4, I_113_7, I_113_8, I_113_9, I_113_10, I_113_13, I_113_16, I_113_17, I_113_18, I_113_21, I_113_24, I_113_25, Option.toList_some, List.cons_append, List.nil_append, b2n, ip_nI0, Bool.false_eq_true, ↓reduceIte, nI_add]
      rw [ih (r + 1) (by omega)]
      simp only [rpF, h, Bool.false_eq_true, ↓reduceIte]
def rpI (σ σ' : ip_G) (f : Nat → Nat) (i : Nat) : Prop := (∀ j, j < i → σ' 8 j = nI (f j)) ∧ ∀ k, k ≠ 8 → σ' k = σ k
def tE (D : Nat → Nat) (i : Nat) : Nat := bits (fun q => up D q i) (D 1)
def tP (D : Nat → Nat) (q : Nat) : Nat := bits (up D q) (D 0)
theorem c_repeatOfEnds (E : ip_E) {σ : ip_G} {D : Nat → Nat} (hC : CD σ 2 D) (hW : WD D) (κ : Option Value → ip_G → Prop) (hk : ∀ σ', (∀ k, k ≠ 8 → σ' k = σ k) → κ (some (.int (nI (rpF (tE D) (D 0) (D 0 - 1) 1)))) σ') : wp E 112 0 [.ref 1, .retAddr 0] [] σ κ := by
  have w := hW.1
  have L : ∀ (k i : Nat) (σ' : ip_G), i + k = D 0 → rpI σ σ' (tE D) i → wp E 112 2 [.ref 1, .int (nI i)] [] σ' κ := by
    intro k
    induction k with
    | zero =>
      intro i σ' hi hI
      have hi2 : i = D 0 := by omega
      have hC' : CD σ' 2 D := CD_fr hC (fun k h1 h2 => hI.2 k (by omega))
      have e0 := hC'.1 0 (by omega)
      have hc : nI (D 0) ≤ nI i := nI_le (by omega) (by omega)
      simp (disch := first | assumption | exact bz0 | exact bz1 | exact bzi | omega | decide +kernel) only [I_112_0, I_112_1, I_112_2, I_112_3, I_112_4, I_112_7, I_112_10, I_112_13, I_112_14, I_112_17, I_112_18, I_112_19, I_112_22, I_112_23, I_112_26, I_112_27, I_112_30, I_112_33, I_112_34, I_112_35, I_112_38, I_112_41, I_112_44, rr_0_0, rr_0_1, rr_0_2, rr_0_3, rr_0_4, rr_0_5, rr_0_6, rr_0_7, rr_0_8, rr_1_0, rr_1_1, rr_1_2, rr_1_3, rr_2_4, rr_2_5, rr_2_6, rr_2_7, rr_2_8, rr_13_0, rr_15_4, rr_15_5, rr_15_6, rr_15_7, rr_15_8, rr_21_4, rr_21_5, rr_21_6, rr_21_7, rr_21_8, rr_27_4, rr_27_5, rr_27_6, rr_27_7, rr_27_8, rr_33_4, rr_33_5, rr_33_6, rr_33_7, rr_33_8, rr_39_4, rr_39_5, rr_39_6, rr_39_7, rr_39_8, rr_45_4, rr_45_5, rr_45_6, rr_45_7, rr_45_8, rr_51_4, rr_51_5, rr_51_6, rr_51_7, rr_51_8, rr_57_4, rr_57_5, rr_57_6, rr_57_7, rr_57_8, rr_63_2, rr_63_3, rr_63_4, rr_63_5, rr_68_0, rr_70_1, rr_70_2, rr_74_4, rr_74_5, rr_74_6, rr_74_7, rr_74_8, rr_80_4, rr_80_5, rr_80_6, rr_80_7, rr_80_8, rr_86_2, rr_88_2, rr_90_2, rr_92_0, rr_92_1, rr_92_5, rr_92_6, rr_92_8, rr_92_9, rr_92_12, rr_92_15, rr_92_16, rr_92_17, e0, hc, ↓reduceIte, I_113_0, I_113_1, I_113_3, I_113_4, I_113_7, I_113_8, I_113_9, I_113_10, I_113_13, I_113_16, I_113_17, I_113_18, I_113_21, I_113_24, I_113_25]
      rw [L_repeatOf E (f := tE D) (by omega) (fun j hj => hI.1 j (by omega)) (fun j _ => bits_4096 _ (by omega)) _ (D 0 - 1) 1 (by omega)]
      simp (disch := first | assumption | exact bz0 | exact bz1 | exact bzi | omega | decide +kernel) only [I_112_0, I_112_1, I_112_2, I_112_3, I_112_4, I_112_7, I_112_10, I_112_13, I_112_14, I_112_17, I_112_18, I_112_19, I_112_22, I_112_23, I_112_26, I_112_27, I_112_30, I_112_33, I_112_34, I_112_35, I_112_38, I_112_41, I_112_44, Option.toList_some, List.cons_append, List.nil_append]
      exact hk σ' hI.2
    | succ k ih =>
      intro i σ' hi hI
      have hC' : CD σ' 2 D := CD_fr hC (fun k h1 h2 => hI.2 k (by omega))
      have e0 := hC'.1 0 (by omega)
      have hc : ¬ nI (D 0) ≤ nI i := nI_ge (by omega) (by omega)
      rw [I_112_2]
      simp (disch := first | assumption | exact bz0 | exact bz1 | exact bzi | omega | decide +kernel) only [I_112_0, I_112_1, I_112_3, I_112_4, I_112_7, I_112_10, I_112_13, I_112_14, I_112_17, I_112_18, I_112_19, I_112_22, I_112_23, I_112_26, I_112_27, I_112_30, I_112_33, I_112_34, I_112_35, I_112_38, I_112_41, I_112_44, rr_0_0, rr_0_1, rr_0_2, rr_0_3, rr_0_4, rr_0_5, rr_0_6, rr_0_7, rr_0_8, rr_1_0, rr_1_1, rr_1_2, rr_1_3, rr_2_4, rr_2_5, rr_2_6, rr_2_7, rr_2_8, rr_13_0, rr_15_4, rr_15_5, rr_15_6, rr_15_7, rr_15_8, rr_21_4, rr_21_5, rr_21_6, rr_21_7, rr_21_8, rr_27_4, rr_27_5, rr_27_6, rr_27_7, rr_27_8, rr_33_4, rr_33_5, rr_33_6, rr_33_7, rr_33_8, rr_39_4, rr_39_5, rr_39_6, rr_39_7, rr_39_8, rr_45_4, rr_45_5, rr_45_6, rr_45_7, rr_45_8, rr_51_4, rr_51_5, rr_51_6, rr_51_7, rr_51_8, rr_57_4, rr_57_5, rr_57_6, rr_57_7, rr_57_8, rr_63_2, rr_63_3, rr_63_4, rr_63_5, rr_68_0, rr_70_1, rr_70_2, rr_74_4, rr_74_5, rr_74_6, rr_74_7, rr_74_8, rr_80_4, rr_80_5, rr_80_6, rr_80_7, rr_80_8, rr_86_2, rr_88_2, rr_90_2, rr_92_0, rr_92_1, rr_92_5, rr_92_6, rr_92_8, rr_92_9, rr_92_12, rr_92_15, rr_92_16, rr_92_17, e0, hc, ↓reduceIte, c_picksUp E (Or.inl rfl) hC' hW (show i < 12 by omega), Option.toList_some, List.cons_append, List.nil_append, nI_add]
      refine ih (i + 1) _ (by omega) ⟨fun j hj => ?_, fun b h1 => by rw [u2_f h1]; exact hI.2 b h1⟩
      by_cases e : j = i
      · subst e; rw [u2_s]; rfl
      · rw [u2_i e]; exact hI.1 j (by omega)
  simp (disch := first | assumption | exact bz0 | exact bz1 | exact bzi | omega | decide +kernel) only [I_112_0, I_112_1, I_112_3, I_112_4, I_112_7, I_112_10, I_112_13, I_112_14, I_112_17, I_112_18, I_112_19, I_112_22, I_112_23, I_112_26, I_112_27, I_112_30, I_112_33, I_112_34, I_112_35, I_112_38, I_112_41, I_112_44]
  exact L (D 0) 0 σ (by omega) ⟨fun j hj => absurd hj (by omega), fun _ _ => rfl⟩
theorem c_repeatOfPicks (E : ip_E) {σ : ip_G} {D : Nat → Nat} (hC : CD σ 2 D) (hW : WD D) (κ : Option Value → ip_G → Prop) (hk : ∀ σ', (∀ k, k ≠ 8 → σ' k = σ k) → κ (some (.int (nI (rpF (tP D) (D 1) (D 1 - 1) 1)))) σ') : wp E 115 0 [.ref 1, .retAddr 0] [] σ κ := by
  have w := hW.1
  have L : ∀ (k i : Nat) (σ' : ip_G), i + k = D 1 → rpI σ σ' (tP D) i → wp E 115 2 [.ref 1, .int (nI i)] [] σ' κ := by
    intro k
    induction k with
    | zero =>
      intro i σ' hi hI
      have hi2 : i = D 1 := by omega
      have hC' : CD σ' 2 D := CD_fr hC (fun k h1 h2 => hI.2 k (by omega))
      have e0 := hC'.1 1 (by omega)
      have hc : nI (D 1) ≤ nI i := nI_le (by omega) (by omega)
      simp (disch := first | assumption | exact bz0 | exact bz1 | exact bzi | omega | decide +kernel) only [I_115_0, I_115_1, I_115_2, I_115_3, I_115_4, I_115_7, I_115_10, I_115_13, I_115_14, I_115_17, I_115_18, I_115_19, I_115_22, I_115_23, I_115_26, I_115_27, I_115_30, I_115_33, I_115_34, I_115_35, I_115_38, I_115_41, I_115_44, rr_0_0, rr_0_1, rr_0_2, rr_0_3, rr_0_4, rr_0_5, rr_0_6, rr_0_7, rr_0_8, rr_1_0, rr_1_1, rr_1_2, rr_1_3, rr_2_4, rr_2_5, rr_2_6, rr_2_7, rr_2_8, rr_13_0, rr_15_4, rr_15_5, rr_15_6, rr_15_7, rr_15_8, rr_21_4, rr_21_5, rr_21_6, rr_21_7, rr_21_8, rr_27_4, rr_27_5, rr_27_6, rr_27_7, rr_27_8, rr_33_4, rr_33_5, rr_33_6, rr_33_7, rr_33_8, rr_39_4, rr_39_5, rr_39_6, rr_39_7, rr_39_8, rr_45_4, rr_45_5, rr_45_6, rr_45_7, rr_45_8, rr_51_4, rr_51_5, rr_51_6, rr_51_7, rr_51_8, rr_57_4, rr_57_5, rr_57_6, rr_57_7, rr_57_8, rr_63_2, rr_63_3, rr_63_4, rr_63_5, rr_68_0, rr_70_1, rr_70_2, rr_74_4, rr_74_5, rr_74_6, rr_74_7, rr_74_8, rr_80_4, rr_80_5, rr_80_6, rr_80_7, rr_80_8, rr_86_2, rr_88_2, rr_90_2, rr_92_0, rr_92_1, rr_92_5, rr_92_6, rr_92_8, rr_92_9, rr_92_12, rr_92_15, rr_92_16, rr_92_17, e0, hc, ↓reduceIte, I_113_0, I_113_1, I_113_3, I_113_4, I_113_7, I_113_8, I_113_9, I_113_10, I_113_13, I_113_16, I_113_17, I_113_18, I_113_21, I_113_24, I_113_25]
      rw [L_repeatOf E (f := tP D) (by omega) (fun j hj => hI.1 j (by omega)) (fun j _ => bits_4096 _ (by omega)) _ (D 1 - 1) 1 (by omega)]
      simp (disch := first | assumption | exact bz0 | exact bz1 | exact bzi | omega | decide +kernel) only [I_115_0, I_115_1, I_115_2, I_115_3, I_115_4, I_115_7, I_115_10, I_115_13, I_115_14, I_115_17, I_115_18, I_115_19, I_115_22, I_115_23, I_115_26, I_115_27, I_115_30, I_115_33, I_115_34, I_115_35, I_115_38, I_115_41, I_115_44, Option.toList_some, List.cons_append, List.nil_append]
      exact hk σ' hI.2
    | succ k ih =>
      intro i σ' hi hI
      have hC' : CD σ' 2 D := CD_fr hC (fun k h1 h2 => hI.2 k (by omega))
      have e0 := hC'.1 1 (by omega)
      have hc : ¬ nI (D 1) ≤ nI i := nI_ge (by omega) (by omega)
      rw [I_115_2]
      simp (disch := first | assumption | exact bz0 | exact bz1 | exact bzi | omega | decide +kernel) only [I_115_0, I_115_1, I_115_3, I_115_4, I_115_7, I_115_10, I_115_13, I_115_14, I_115_17, I_115_18, I_115_19, I_115_22, I_115_23, I_115_26, I_115_27, I_115_30, I_115_33, I_115_34, I_115_35, I_115_38, I_115_41, I_115_44, rr_0_0, rr_0_1, rr_0_2, rr_0_3, rr_0_4, rr_0_5, rr_0_6, rr_0_7, rr_0_8, rr_1_0, rr_1_1, rr_1_2, rr_1_3, rr_2_4, rr_2_5, rr_2_6, rr_2_7, rr_2_8, rr_13_0, rr_15_4, rr_15_5, rr_15_6, rr_15_7, rr_15_8, rr_21_4, rr_21_5, rr_21_6, rr_21_7, rr_21_8, rr_27_4, rr_27_5, rr_27_6, rr_27_7, rr_27_8, rr_33_4, rr_33_5, rr_33_6, rr_33_7, rr_33_8, rr_39_4, rr_39_5, rr_39_6, rr_39_7, rr_39_8, rr_45_4, rr_45_5, rr_45_6, rr_45_7, rr_45_8, rr_51_4, rr_51_5, rr_51_6, rr_51_7, rr_51_8, rr_57_4, rr_57_5, rr_57_6, rr_57_7, rr_57_8, rr_63_2, rr_63_3, rr_63_4, rr_63_5, rr_68_0, rr_70_1, rr_70_2, rr_74_4, rr_74_5, rr_74_6, rr_74_7, rr_74_8, rr_80_4, rr_80_5, rr_80_6, rr_80_7, rr_80_8, rr_86_2, rr_88_2, rr_90_2, rr_92_0, rr_92_1, rr_92_5, rr_92_6, rr_92_8, rr_92_9, rr_92_12, rr_92_15, rr_92_16, rr_92_17, e0, hc, ↓reduceIte, c_endsUp E (Or.inl rfl) hC' hW (show i < 12 by omega), Option.toList_some, List.cons_append, List.nil_append, nI_add]
      refine ih (i + 1) _ (by omega) ⟨fun j hj => ?_, fun b h1 => by rw [u2_f h1]; exact hI.2 b h1⟩
      by_cases e : j = i
      · subst e; rw [u2_s]; rfl
      · rw [u2_i e]; exact hI.1 j (by omega)
  simp (disch := first | assumption | exact bz0 | exact bz1 | exact bzi | omega | decide +kernel) only [I_115_0, I_115_1, I_115_3, I_115_4, I_115_7, I_115_10, I_115_13, I_115_14, I_115_17, I_115_18, I_115_19, I_115_22, I_115_23, I_115_26, I_115_27, I_115_30, I_115_33, I_115_34, I_115_35, I_115_38, I_115_41, I_115_44]
  exact L (D 1) 0 σ (by omega) ⟨fun j hj => absurd hj (by omega), fun _ _ => rfl⟩
