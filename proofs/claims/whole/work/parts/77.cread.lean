/-! the class's reader: clauses, the whole text; what it does with them -/
theorem c_setSizes (E : ip_E) (σ : ip_G) (a b c d : Int32) (κ : Option Value → ip_G → Prop) : wp E 13 0 [.ref 70, .int a, .int b, .int c, .int d] [] σ κ = κ none (ip_u2 (ip_u2 (ip_u2 (ip_u2 σ 70 3 a) 70 4 b) 70 5 c) 70 6 d) := by
  simp (disch := first | assumption | exact bz0 | exact bz1 | exact bzi | omega | decide +kernel) only [I_13_0, I_13_1, I_13_2, I_13_5, I_13_6, I_13_7, I_13_10, I_13_11, I_13_12, I_13_15, I_13_16, I_13_18, I_13_21]
/-- clause i is kept -/
def sto (σ : ip_G) (i : Nat) (q : Nat × (Nat → Nat)) : Prop := σ 71 i = nI q.1 ∧ ∀ a, a < nmC q.1 → σ 72 (i * 4 + a) = nI (q.2 a)
def stL (σ : ip_G) : Nat → List (Nat × (Nat → Nat)) → Prop
  | _, [] => True
  | i, q :: L => sto σ i q ∧ stL σ (i + 1) L
theorem nmC_4 (w : Nat) : nmC w ≤ 4 := by
  unfold nmC
  split
  · omega
  · split <;> omega
theorem sto_fr {σ σ' : ip_G} {i : Nat} {q : Nat × (Nat → Nat)} (h : sto σ i q) (hf : frR σ σ' (i + 1)) : sto σ' i q := by
  have := nmC_4 q.1
  exact ⟨by rw [hf.2.1 i (by omega)]; exact h.1, fun a ha => by rw [hf.2.2 _ (by omega)]; exact h.2 a ha⟩
theorem stL_eq {σ σ' : ip_G} (h1 : σ' 71 = σ 71) (h2 : σ' 72 = σ 72) : ∀ (L : List (Nat × (Nat → Nat))) (i : Nat), stL σ i L → stL σ' i L
  | [], _, _ => trivial
  | _ :: L, i, h => ⟨⟨by rw [h1]; exact h.1.1, by rw [h2]; exact h.1.2⟩, stL_eq h1 h2 L (i + 1) h.2⟩
theorem clz_0 {n : Nat} {T : Nat → Nat} {R : Nat → Nat} {p p' : Nat} {N : Nat → Nat} (hc : clz n T R p = (true, p', N)) (h0 : clW n T p = 0) : 1 ≤ N 0 ∧ N 0 ≤ 12 ∧ 1 ≤ N 1 ∧ N 1 ≤ 12 ∧ 1 ≤ N 2 ∧ N 2 ≤ 6 ∧ 1 ≤ N 3 ∧ N 3 ≤ 6 := by
  unfold clz at hc
  split at hc
  · rw [h0] at hc
    unfold clR at hc
    rw [if_neg (by decide)] at hc
    have hb1 : (rn n T (nmL 0) (nmH R 0) (nmC 0) 0 (te n T p) (fun _ => 0)).1 = true := by rw [hc]
    have bd := rn_bd _ _ _ _ hb1
    rw [hc] at bd
    dsimp only at bd
    have b0 := bd 0 (by omega) (by decide)
    have b1 := bd 1 (by omega) (by decide)
    have b2 := bd 2 (by omega) (by decide)
    have b3 := bd 3 (by omega) (by decide)
    simp only [nmL, nmH, ↓reduceIte, show (0:Nat) < 2 by decide, show (1:Nat) < 2 by decide, show ¬ (2:Nat) < 2 by decide, show ¬ (3:Nat) < 2 by decide] at b0 b1 b2 b3
    omega
  · cases hc
theorem nxR_W {n : Nat} {T : Nat → Nat} {R : Nat → Nat} {p p' : Nat} {N : Nat → Nat} (hW : WR R) (hc : clz n T R p = (true, p', N)) : WR (nxR R (clW n T p) N) := by
  have c0 := clz_0 hc
  have c7 := clz_7 hc
  generalize clW n T p = w at *
  by_cases h0 : w = 0
  · subst h0
    have := c0 rfl
    unfold WR at hW ⊢
    show 1 ≤ N 0 ∧ N 0 ≤ 12 ∧ 1 ≤ N 1 ∧ N 1 ≤ 12 ∧ 1 ≤ N 2 ∧ N 2 ≤ 6 ∧ 1 ≤ N 3 ∧ N 3 ≤ 6 ∧ R 4 ≤ 12 ∧ R 5 ≤ 12
    omega
  · by_cases h6 : w = 6
    · subst h6
      unfold WR at hW ⊢
      show 1 ≤ R 0 ∧ R 0 ≤ 12 ∧ 1 ≤ R 1 ∧ R 1 ≤ 12 ∧ 1 ≤ R 2 ∧ R 2 ≤ 6 ∧ 1 ≤ R 3 ∧ R 3 ≤ 6 ∧ 0 ≤ 12 ∧ 0 ≤ 12
      omega
    · by_cases h7 : w = 7
      · subst h7
        have := c7 rfl
        unfold WR at hW ⊢
        show 1 ≤ R 0 ∧ R 0 ≤ 12 ∧ 1 ≤ R 1 ∧ R 1 ≤ 12 ∧ 1 ≤ R 2 ∧ R 2 ≤ 6 ∧ 1 ≤ R 3 ∧ R 3 ≤ 6 ∧ R 4 + 1 ≤ 12 ∧ N 1 ≤ 12
        omega
      · have : nxR R w N = R := by
          funext j
          unfold nxR
          rw [if_neg h0, if_neg h6, if_neg h7]
        rw [this]
        exact hW
theorem c_readClause (E : ip_E) (hE : ip_fok2 E.2.2) {σ : ip_G} {n : Nat} {T : Nat → Nat} {R : Nat → Nat} {i p : Nat} (hW : WR R) (hi : i < 24) (hT : CT σ n T) (hp : σ 68 3 = nI p) (hpn : p ≤ n) (hR : RC σ R) (h0 : σ 70 0 = nI i) (κ : Option Value → ip_G → Prop) (hk : ∀ b p2 N2 σ2, clz n T R p = (b, p2, N2) → tO σ2 n T b p2 → (b = true → sto σ2 i (clW n T p, N2) ∧ RC σ2 (nxR R (clW n T p) N2)) → σ2 70 0 = nI i → frR σ σ2 i → κ (some (.int (nI (b2n b)))) σ2) : wp E 15 0 [.ref 70, .ref 68, .retAddr 0] [] σ κ := by
  simp (disch := first | assumption | exact bz0 | exact bz1 | exact bzi | omega | decide +kernel) only [I_15_0, I_15_1, I_15_4, I_15_5, I_15_8, I_15_9, I_15_10, I_15_11, I_15_14, I_15_15, I_15_17, I_15_20, I_15_21, I_15_24, I_15_26, I_15_29, I_15_30, I_15_31, I_15_32, I_15_35, I_15_36, I_15_39, I_15_40, I_15_41, I_15_42, I_15_44, I_15_47, I_15_48, I_15_49, I_15_52, I_15_53, I_15_54, I_15_55, I_15_56, I_15_59, I_15_62, I_15_63, I_15_64, I_15_65, I_15_68, I_15_69, I_15_70, I_15_71, I_15_74, I_15_75, I_15_78, I_15_79, I_15_80, I_15_83, I_15_84, I_15_87, I_15_88, I_15_89, I_15_92, I_15_93, I_15_96, I_15_97, I_15_98, I_15_101, I_15_102, I_15_105, I_15_108, I_15_109, I_15_111, I_15_114, I_15_115, I_15_116, I_15_119, I_15_120]
  refine c_goOn E hT hp hpn _ (fun σ2 g1 g2 => ?_)
  have g1' : TX σ2 n T (ts n T p) (te n T p) := g1
  have ht := te_le (T := T) hpn
  have hn : n ≤ 200 := hT.2.1
  have hR2 : RC σ2 R := RC_fr hR (fun j _ _ => by rw [g2 70 (by omega)])
  have z0 : σ2 70 0 = nI i := by rw [g2 70 (by omega)]; exact h0
  have fr2 : frR σ σ2 i := ⟨fun k h1 _ _ _ => g2 k h1, fun a _ => by rw [g2 71 (by omega)], fun a _ => by rw [g2 72 (by omega)]⟩
  have hw8 := clW_le n T p
  have hck : wF n T (ts n T p) (te n T p) 8 0 = clW n T p := rfl
  simp (disch := first | assumption | exact bz0 | exact bz1 | exact bzi | omega | decide +kernel) only [I_15_0, I_15_1, I_15_4, I_15_5, I_15_8, I_15_9, I_15_10, I_15_11, I_15_14, I_15_15, I_15_17, I_15_20, I_15_21, I_15_24, I_15_26, I_15_29, I_15_30, I_15_31, I_15_32, I_15_35, I_15_36, I_15_39, I_15_40, I_15_41, I_15_42, I_15_44, I_15_47, I_15_48, I_15_49, I_15_52, I_15_53, I_15_54, I_15_55, I_15_56, I_15_59, I_15_62, I_15_63, I_15_64, I_15_65, I_15_68, I_15_69, I_15_70, I_15_71, I_15_74, I_15_75, I_15_78, I_15_79, I_15_80, I_15_83, I_15_84, I_15_87, I_15_88, I_15_89, I_15_92, I_15_93, I_15_96, I_15_97, I_15_98, I_15_101, I_15_102, I_15_105, I_15_108, I_15_109, I_15_111, I_15_114, I_15_115, I_15_116, I_15_119, I_15_120, c_clauseKind E hE g1' ht.1 ht.2.1, Option.toList_some, List.cons_append, List.nil_append, Option.toList_none, hck]
  have bad : clB n T R p = false → κ (some (.int (nI 0))) σ2 := by
    intro hb
    have hc : clz n T R p = (false, p, fun _ => 0) := by
      unfold clz
      rw [hb, if_neg (by decide)]
    exact hk false p _ σ2 hc ⟨g1.1, hpn, g1.2.1⟩ (fun z => by cases z) z0 fr2
  have good : clB n T R p = true → clz n T R p = clR n T R (clW n T p) (te n T p) := by
    intro hb
    unfold clz
    rw [if_pos hb]
  unfold clB at bad good
  generalize clW n T p = w at *
  by_cases h8 : w = 8
  · subst h8
    simp (disch := first | assumption | exact bz0 | exact bz1 | exact bzi | omega | decide +kernel) only [I_15_0, I_15_1, I_15_4, I_15_5, I_15_8, I_15_9, I_15_10, I_15_11, I_15_14, I_15_15, I_15_17, I_15_20, I_15_21, I_15_24, I_15_26, I_15_29, I_15_30, I_15_31, I_15_32, I_15_35, I_15_36, I_15_39, I_15_40, I_15_41, I_15_42, I_15_44, I_15_47, I_15_48, I_15_49, I_15_52, I_15_53, I_15_54, I_15_55, I_15_56, I_15_59, I_15_62, I_15_63, I_15_64, I_15_65, I_15_68, I_15_69, I_15_70, I_15_71, I_15_74, I_15_75, I_15_78, I_15_79, I_15_80, I_15_83, I_15_84, I_15_87, I_15_88, I_15_89, I_15_92, I_15_93, I_15_96, I_15_97, I_15_98, I_15_101, I_15_102, I_15_105, I_15_108, I_15_109, I_15_111, I_15_114, I_15_115, I_15_116, I_15_119, I_15_120, wN, ↓reduceIte]
    exact bad (decide_eq_false (by omega))
  · have hq : ¬ nI w = -1 := (by decide +kernel : ∀ w, w < 8 → ¬ nI w = -1) w (by omega)
    have hwn : wN w = nI w := if_neg h8
    simp (disch := first | assumption | exact bz0 | exact bz1 | exact bzi | omega | decide +kernel) only [I_15_0, I_15_1, I_15_4, I_15_5, I_15_8, I_15_9, I_15_10, I_15_11, I_15_14, I_15_15, I_15_17, I_15_20, I_15_21, I_15_24, I_15_26, I_15_29, I_15_30, I_15_32, I_15_35, I_15_36, I_15_39, I_15_40, I_15_41, I_15_42, I_15_44, I_15_47, I_15_48, I_15_49, I_15_52, I_15_53, I_15_54, I_15_55, I_15_56, I_15_59, I_15_62, I_15_63, I_15_64, I_15_65, I_15_68, I_15_69, I_15_70, I_15_71, I_15_74, I_15_75, I_15_78, I_15_79, I_15_80, I_15_83, I_15_84, I_15_87, I_15_88, I_15_89, I_15_92, I_15_93, I_15_96, I_15_97, I_15_98, I_15_101, I_15_102, I_15_105, I_15_108, I_15_109, I_15_111, I_15_114, I_15_115, I_15_116, I_15_119, I_15_120, hwn, hq, ↓reduceIte]
    have tx3 : ∀ v, CT (ip_u2 σ2 71 i v) n T := fun v => CT_fr g1.1 (by rw [u2_f (by omega)]) (by rw [u2_f (by omega)])
    have st3 : ∀ v, (ip_u2 σ2 71 i v) 68 3 = nI (te n T p) := fun v => by rw [u2_f (by omega)]; exact g1.2.2.1
    have rc3 : ∀ v, RC (ip_u2 σ2 71 i v) R := fun v => RC_fr hR2 (fun _ _ _ => by rw [u2_f (by omega)])
    have y0 : ∀ v, (ip_u2 σ2 71 i v) 70 0 = nI i := fun v => by rw [u2_f (by omega)]; exact z0
    by_cases h7 : w = 7
    · subst h7
      by_cases h4 : R 4 < 12
      · have q4 : nI (R 4) < nI 12 := nI_lt h4 (by omega)
        simp (disch := first | assumption | exact bz0 | exact bz1 | exact bzi | omega | decide +kernel) only [I_15_0, I_15_1, I_15_4, I_15_5, I_15_8, I_15_9, I_15_10, I_15_11, I_15_14, I_15_15, I_15_17, I_15_20, I_15_21, I_15_24, I_15_26, I_15_29, I_15_30, I_15_31, I_15_32, I_15_35, I_15_36, I_15_39, I_15_40, I_15_41, I_15_42, I_15_44, I_15_47, I_15_48, I_15_49, I_15_52, I_15_53, I_15_54, I_15_55, I_15_56, I_15_59, I_15_62, I_15_63, I_15_64, I_15_65, I_15_68, I_15_69, I_15_70, I_15_71, I_15_74, I_15_75, I_15_78, I_15_79, I_15_80, I_15_83, I_15_84, I_15_87, I_15_88, I_15_89, I_15_92, I_15_93, I_15_96, I_15_97, I_15_98, I_15_101, I_15_102, I_15_105, I_15_108, I_15_109, I_15_111, I_15_114, I_15_115, I_15_116, I_15_119, I_15_120, rr_0_0, rr_0_1, rr_0_2, rr_0_3, rr_0_4, rr_0_5, rr_0_6, rr_0_7, rr_0_8, rr_1_0, rr_1_1, rr_1_2, rr_1_3, rr_2_4, rr_2_5, rr_2_6, rr_2_7, rr_2_8, rr_13_0, rr_15_4, rr_15_5, rr_15_6, rr_15_7, rr_15_8, rr_21_4, rr_21_5, rr_21_6, rr_21_7, rr_21_8, rr_27_4, rr_27_5, rr_27_6, rr_27_7, rr_27_8, rr_33_4, rr_33_5, rr_33_6, rr_33_7, rr_33_8, rr_39_4, rr_39_5, rr_39_6, rr_39_7, rr_39_8, rr_45_4, rr_45_5, rr_45_6, rr_45_7, rr_45_8, rr_51_4, rr_51_5, rr_51_6, rr_51_7, rr_51_8, rr_57_4, rr_57_5, rr_57_6, rr_57_7, rr_57_8, rr_63_2, rr_63_3, rr_63_4, rr_63_5, rr_68_0, rr_70_1, rr_70_2, rr_74_4, rr_74_5, rr_74_6, rr_74_7, rr_74_8, rr_80_4, rr_80_5, rr_80_6, rr_80_7, rr_80_8, rr_86_2, rr_88_2, rr_90_2, rr_92_0, rr_92_1, rr_92_5, rr_92_6, rr_92_8, rr_92_9, rr_92_12, rr_92_15, rr_92_16, rr_92_17, not_true_eq_false, ↓reduceIte, hR2.2.1, q4, z0]
        have hcl := good (decide_eq_true ⟨by omega, fun _ => h4⟩)
        refine c_readRow E hW h4 hi (tx3 _) (st3 _) ht.2.1 (rc3 _) (y0 _) _ (fun b p2 N2 σ3 e1 e2 e3 e4 e5 e6 => ?_)
        simp (disch := first | assumption | exact bz0 | exact bz1 | exact bzi | exact b2n_bz _ | omega | decide +kernel) only [I_15_0, I_15_1, I_15_4, I_15_5, I_15_8, I_15_9, I_15_10, I_15_11, I_15_14, I_15_15, I_15_17, I_15_20, I_15_21, I_15_24, I_15_26, I_15_29, I_15_30, I_15_31, I_15_32, I_15_35, I_15_36, I_15_39, I_15_40, I_15_41, I_15_42, I_15_44, I_15_47, I_15_48, I_15_49, I_15_52, I_15_53, I_15_54, I_15_55, I_15_56, I_15_59, I_15_62, I_15_63, I_15_64, I_15_65, I_15_68, I_15_69, I_15_70, I_15_71, I_15_74, I_15_75, I_15_78, I_15_79, I_15_80, I_15_83, I_15_84, I_15_87, I_15_88, I_15_89, I_15_92, I_15_93, I_15_96, I_15_97, I_15_98, I_15_101, I_15_102, I_15_105, I_15_108, I_15_109, I_15_111, I_15_114, I_15_115, I_15_116, I_15_119, I_15_120, Option.toList_some, List.cons_append, List.nil_append]
        refine hk b p2 N2 σ3 (hcl.trans e1) e2 (fun hb => ⟨⟨?_, (e3 hb).1⟩, (e3 hb).2⟩) e4 ⟨fun k h1 h2 h3 h4 => ?_, fun a ha => ?_, fun a ha => ?_⟩
        · rw [e5 71 (by omega) (by omega) (by omega), u2_s]
        · rw [e5 k h1 h2 h4, u2_f h3]; exact g2 k h1
        · rw [e5 71 (by omega) (by omega) (by omega), u2_i (by omega)]; exact fr2.2.1 a ha
        · rw [e6 a ha, u2_k (by omega)]; exact fr2.2.2 a ha
      · have hw4 : R 4 ≤ 12 := hW.2.2.2.2.2.2.2.2.1
        have q4 : ¬ nI (R 4) < nI 12 := nI_nlt (by omega) (by omega)
        simp (disch := first | assumption | exact bz0 | exact bz1 | exact bzi | omega | decide +kernel) only [I_15_0, I_15_1, I_15_4, I_15_5, I_15_8, I_15_9, I_15_10, I_15_11, I_15_14, I_15_15, I_15_17, I_15_20, I_15_21, I_15_24, I_15_26, I_15_29, I_15_30, I_15_31, I_15_32, I_15_35, I_15_36, I_15_39, I_15_40, I_15_41, I_15_42, I_15_44, I_15_47, I_15_48, I_15_49, I_15_52, I_15_53, I_15_54, I_15_55, I_15_56, I_15_59, I_15_62, I_15_63, I_15_64, I_15_65, I_15_68, I_15_69, I_15_70, I_15_71, I_15_74, I_15_75, I_15_78, I_15_79, I_15_80, I_15_83, I_15_84, I_15_87, I_15_88, I_15_89, I_15_92, I_15_93, I_15_96, I_15_97, I_15_98, I_15_101, I_15_102, I_15_105, I_15_108, I_15_109, I_15_111, I_15_114, I_15_115, I_15_116, I_15_119, I_15_120, not_true_eq_false, ↓reduceIte, hR2.2.1, q4]
        exact bad (decide_eq_false (fun z => h4 (z.2 rfl)))
    · have q7 : ¬ nI w = nI 7 := fun z => h7 ((nI_eq (by omega) (by omega)).mp z)
      simp (disch := first | assumption | exact bz0 | exact bz1 | exact bzi | omega | decide +kernel) only [I_15_0, I_15_1, I_15_4, I_15_5, I_15_8, I_15_9, I_15_10, I_15_11, I_15_14, I_15_15, I_15_17, I_15_20, I_15_21, I_15_24, I_15_26, I_15_29, I_15_30, I_15_31, I_15_32, I_15_35, I_15_36, I_15_39, I_15_40, I_15_41, I_15_42, I_15_44, I_15_47, I_15_48, I_15_49, I_15_52, I_15_53, I_15_54, I_15_55, I_15_56, I_15_59, I_15_62, I_15_63, I_15_64, I_15_65, I_15_68, I_15_69, I_15_70, I_15_71, I_15_74, I_15_75, I_15_78, I_15_79, I_15_80, I_15_83, I_15_84, I_15_87, I_15_88, I_15_89, I_15_92, I_15_93, I_15_96, I_15_97, I_15_98, I_15_101, I_15_102, I_15_105, I_15_108, I_15_109, I_15_111, I_15_114, I_15_115, I_15_116, I_15_119, I_15_120, rr_0_0, rr_0_1, rr_0_2, rr_0_3, rr_0_4, rr_0_5, rr_0_6, rr_0_7, rr_0_8, rr_1_0, rr_1_1, rr_1_2, rr_1_3, rr_2_4, rr_2_5, rr_2_6, rr_2_7, rr_2_8, rr_13_0, rr_15_4, rr_15_5, rr_15_6, rr_15_7, rr_15_8, rr_21_4, rr_21_5, rr_21_6, rr_21_7, rr_21_8, rr_27_4, rr_27_5, rr_27_6, rr_27_7, rr_27_8, rr_33_4, rr_33_5, rr_33_6, rr_33_7, rr_33_8, rr_39_4, rr_39_5, rr_39_6, rr_39_7, rr_39_8, rr_45_4, rr_45_5, rr_45_6, rr_45_7, rr_45_8, rr_51_4, rr_51_5, rr_51_6, rr_51_7, rr_51_8, rr_57_4, rr_57_5, rr_57_6, rr_57_7, rr_57_8, rr_63_2, rr_63_3, rr_63_4, rr_63_5, rr_68_0, rr_70_1, rr_70_2, rr_74_4, rr_74_5, rr_74_6, rr_74_7, rr_74_8, rr_80_4, rr_80_5, rr_80_6, rr_80_7, rr_80_8, rr_86_2, rr_88_2, rr_90_2, rr_92_0, rr_92_1, rr_92_5, rr_92_6, rr_92_8, rr_92_9, rr_92_12, rr_92_15, rr_92_16, rr_92_17, q7, not_false_eq_true, ↓reduceIte, z0]
      have hcl := good (decide_eq_true ⟨by omega, fun z => absurd z h7⟩)
      have hcr : clR n T R w (te n T p) = rn n T (nmL w) (nmH R w) (nmC w) 0 (te n T p) (fun _ => 0) := if_neg h7
      rw [hcr] at hcl
      refine c_readNumbers E hW (show w < 7 by omega) hi (tx3 _) (st3 _) ht.2.1 (rc3 _) (y0 _) _ (fun b p2 N2 σ3 e1 e2 e3 e4 e5 => ?_)
      have hc := hcl.trans e1
      have x71 : σ3 71 = (ip_u2 σ2 71 i (nI w)) 71 := e4 71 (by omega) (by omega)
      have x70 : σ3 70 = σ2 70 := by rw [e4 70 (by omega) (by omega), u2_f (by omega)]
      have fr3 : frR σ σ3 i := by
        refine ⟨fun k h1 h2 h3 h4 => ?_, fun a ha => ?_, fun a ha => ?_⟩
        · rw [e4 k h1 h4, u2_f h3]; exact g2 k h1
        · rw [x71, u2_i (by omega)]; exact fr2.2.1 a ha
        · rw [e5 a ha, u2_k (by omega)]; exact fr2.2.2 a ha
      cases b with
      | false =>
        simp (disch := first | assumption | exact bz0 | exact bz1 | exact bzi | omega | decide +kernel) only [I_15_0, I_15_1, I_15_4, I_15_5, I_15_8, I_15_9, I_15_10, I_15_11, I_15_14, I_15_15, I_15_17, I_15_20, I_15_21, I_15_24, I_15_26, I_15_29, I_15_30, I_15_31, I_15_32, I_15_35, I_15_36, I_15_39, I_15_40, I_15_41, I_15_42, I_15_44, I_15_47, I_15_48, I_15_49, I_15_52, I_15_53, I_15_54, I_15_55, I_15_56, I_15_59, I_15_62, I_15_63, I_15_64, I_15_65, I_15_68, I_15_69, I_15_70, I_15_71, I_15_74, I_15_75, I_15_78, I_15_79, I_15_80, I_15_83, I_15_84, I_15_87, I_15_88, I_15_89, I_15_92, I_15_93, I_15_96, I_15_97, I_15_98, I_15_101, I_15_102, I_15_105, I_15_108, I_15_109, I_15_111, I_15_114, I_15_115, I_15_116, I_15_119, I_15_120, Option.toList_some, List.cons_append, List.nil_append, nb0, not_true_eq_false, ↓reduceIte]
        exact hk false p2 N2 σ3 hc e2 (fun z => by cases z) (by rw [x70]; exact z0) fr3
      | true =>
        have s3 : sto σ3 i (w, N2) := ⟨by rw [x71, u2_s], e3 rfl⟩
        have rc4 : RC σ3 R := RC_fr hR2 (fun _ _ _ => by rw [x70])
        simp (disch := first | assumption | exact bz0 | exact bz1 | exact bzi | omega | decide +kernel) only [I_15_0, I_15_1, I_15_4, I_15_5, I_15_8, I_15_9, I_15_10, I_15_11, I_15_14, I_15_15, I_15_17, I_15_20, I_15_21, I_15_24, I_15_26, I_15_29, I_15_30, I_15_31, I_15_32, I_15_35, I_15_36, I_15_39, I_15_40, I_15_41, I_15_42, I_15_44, I_15_47, I_15_48, I_15_49, I_15_52, I_15_53, I_15_54, I_15_55, I_15_56, I_15_59, I_15_62, I_15_63, I_15_65, I_15_68, I_15_69, I_15_70, I_15_71, I_15_74, I_15_75, I_15_78, I_15_79, I_15_80, I_15_83, I_15_84, I_15_87, I_15_88, I_15_89, I_15_92, I_15_93, I_15_96, I_15_97, I_15_98, I_15_101, I_15_102, I_15_105, I_15_109, I_15_111, I_15_114, I_15_115, I_15_116, I_15_119, I_15_120, Option.toList_some, List.cons_append, List.nil_append, nb1, not_false_eq_true, ↓reduceIte]
        by_cases hw0 : w = 0
        · subst hw0
          have v0 : σ3 72 (i * 4 + 0) = nI (N2 0) := e3 rfl 0 (by decide)
          have v1 : σ3 72 (i * 4 + 1) = nI (N2 1) := e3 rfl 1 (by decide)
          have v2 : σ3 72 (i * 4 + 2) = nI (N2 2) := e3 rfl 2 (by decide)
          have v3 : σ3 72 (i * 4 + 3) = nI (N2 3) := e3 rfl 3 (by decide)
          have y3 : σ3 70 0 = nI i := by rw [x70]; exact z0
          have q6 : ¬ nI 0 = nI 6 := by decide +kernel
          have q0 : ¬ ¬ nI 0 = 0 := by decide +kernel
          rw [I_15_64]
          simp (disch := first | assumption | exact bz0 | exact bz1 | exact bzi | omega | decide +kernel) only [I_15_0, I_15_1, I_15_4, I_15_5, I_15_8, I_15_9, I_15_10, I_15_11, I_15_14, I_15_15, I_15_17, I_15_20, I_15_21, I_15_24, I_15_26, I_15_29, I_15_30, I_15_31, I_15_32, I_15_35, I_15_36, I_15_39, I_15_40, I_15_41, I_15_42, I_15_44, I_15_47, I_15_48, I_15_49, I_15_52, I_15_53, I_15_54, I_15_55, I_15_56, I_15_59, I_15_62, I_15_63, I_15_65, I_15_68, I_15_69, I_15_70, I_15_71, I_15_74, I_15_75, I_15_78, I_15_79, I_15_80, I_15_83, I_15_84, I_15_87, I_15_88, I_15_89, I_15_92, I_15_93, I_15_96, I_15_97, I_15_98, I_15_101, I_15_102, I_15_105, I_15_108, I_15_109, I_15_111, I_15_114, I_15_115, I_15_116, I_15_119, I_15_120, q0, ↓reduceIte, y3, c_rnumber E hi (show 0 < 4 by omega), c_rnumber E hi (show 1 < 4 by omega), c_rnumber E hi (show 2 < 4 by omega), c_rnumber E hi (show 3 < 4 by omega), Option.toList_some, List.cons_append, List.nil_append, v0, v1, v2, v3, c_setSizes, Option.toList_none, q6, not_false_eq_true]
          refine hk true p2 N2 _ hc (tO_fr e2 (by rw [u2_f (by omega), u2_f (by omega), u2_f (by omega), u2_f (by omega)]) (by rw [u2_f (by omega), u2_f (by omega), u2_f (by omega), u2_f (by omega)])) (fun _ => ⟨⟨?_, fun a ha => ?_⟩, fun j hj => ?_, ?_, fun z => ?_⟩) ?_ (frR_t fr3 ⟨fun k h1 h2 h3 h4 => ?_, fun a ha => ?_, fun a ha => ?_⟩)
          · rw [u2_f (by omega), u2_f (by omega), u2_f (by omega), u2_f (by omega)]; exact s3.1
          · rw [u2_f (by omega), u2_f (by omega), u2_f (by omega), u2_f (by omega)]; exact s3.2 a ha
          · have : j = 0 ∨ j = 1 ∨ j = 2 ∨ j = 3 := by omega
            rcases this with rfl | rfl | rfl | rfl <;> simp [ip_u2, nxR]
          · rw [u2_i (by omega), u2_i (by omega), u2_i (by omega), u2_i (by omega)]; exact rc4.2.1
          · rw [u2_i (by omega), u2_i (by omega), u2_i (by omega), u2_i (by omega)]; exact rc4.2.2 z
          · rw [u2_i (by omega), u2_i (by omega), u2_i (by omega), u2_i (by omega)]; exact y3
          · rw [u2_f h2, u2_f h2, u2_f h2, u2_f h2]
          · rw [u2_f (by omega), u2_f (by omega), u2_f (by omega), u2_f (by omega)]
          · rw [u2_f (by omega), u2_f (by omega), u2_f (by omega), u2_f (by omega)]
        · have q0 : ¬ nI w = 0 := fun z => hw0 ((nI_eq (by omega) (by omega)).mp (z.trans ip_nI0.symm))
          rw [I_15_64]
          by_cases hw6 : w = 6
          · subst hw6
            simp (disch := first | assumption | exact bz0 | exact bz1 | exact bzi | omega | decide +kernel) only [I_15_0, I_15_1, I_15_4, I_15_5, I_15_8, I_15_9, I_15_10, I_15_11, I_15_14, I_15_15, I_15_17, I_15_20, I_15_21, I_15_24, I_15_26, I_15_29, I_15_30, I_15_31, I_15_32, I_15_35, I_15_36, I_15_39, I_15_40, I_15_41, I_15_42, I_15_44, I_15_47, I_15_48, I_15_49, I_15_52, I_15_53, I_15_54, I_15_55, I_15_56, I_15_59, I_15_62, I_15_63, I_15_65, I_15_68, I_15_69, I_15_70, I_15_71, I_15_74, I_15_75, I_15_78, I_15_79, I_15_80, I_15_83, I_15_84, I_15_87, I_15_88, I_15_89, I_15_92, I_15_93, I_15_96, I_15_97, I_15_98, I_15_101, I_15_102, I_15_105, I_15_108, I_15_109, I_15_111, I_15_114, I_15_115, I_15_116, I_15_119, I_15_120, q0, not_false_eq_true, not_true_eq_false, ↓reduceIte]
            refine hk true p2 N2 _ hc (tO_fr e2 (by rw [u2_f (by omega)]) (by rw [u2_f (by omega)])) (fun _ => ⟨⟨?_, fun a ha => ?_⟩, fun j hj => ?_, ?_, fun z => absurd z (Nat.not_succ_le_zero 0)⟩) ?_ (frR_t fr3 ⟨fun k h1 h2 h3 h4 => ?_, fun a ha => ?_, fun a ha => ?_⟩)
            · rw [u2_f (by omega)]; exact s3.1
            · rw [u2_f (by omega)]; exact s3.2 a ha
            · rw [u2_i (by omega)]
              show _ = nI (if j < 4 then R j else 0)
              rw [if_pos hj]; exact rc4.1 j hj
            · rw [u2_s]; rfl
            · rw [u2_i (by omega), x70]; exact z0
            · rw [u2_f h2]
            · rw [u2_f (by omega)]
            · rw [u2_f (by omega)]
          · have q6 : ¬ nI w = nI 6 := fun z => hw6 ((nI_eq (by omega) (by omega)).mp z)
            simp (disch := first | assumption | exact bz0 | exact bz1 | exact bzi | omega | decide +kernel) only [I_15_0, I_15_1, I_15_4, I_15_5, I_15_8, I_15_9, I_15_10, I_15_11, I_15_14, I_15_15, I_15_17, I_15_20, I_15_21, I_15_24, I_15_26, I_15_29, I_15_30, I_15_31, I_15_32, I_15_35, I_15_36, I_15_39, I_15_40, I_15_41, I_15_42, I_15_44, I_15_47, I_15_48, I_15_49, I_15_52, I_15_53, I_15_54, I_15_55, I_15_56, I_15_59, I_15_62, I_15_63, I_15_65, I_15_68, I_15_69, I_15_70, I_15_71, I_15_74, I_15_75, I_15_78, I_15_79, I_15_80, I_15_83, I_15_84, I_15_87, I_15_88, I_15_89, I_15_92, I_15_93, I_15_96, I_15_97, I_15_98, I_15_101, I_15_102, I_15_105, I_15_108, I_15_109, I_15_111, I_15_114, I_15_115, I_15_116, I_15_119, I_15_120, q0, q6, not_false_eq_true, ↓reduceIte]
            have hnx : nxR R w N2 = R := by
              funext j
              unfold nxR
              rw [if_neg hw0, if_neg hw6, if_neg h7]
            exact hk true p2 N2 σ3 hc e2 (fun _ => ⟨s3, by rw [hnx]; exact rc4⟩) (by rw [x70]; exact z0) fr3
