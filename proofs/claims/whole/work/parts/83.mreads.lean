/-! the reference reads a whole text; fault, draft -/
def rdT (n : Nat) (T : Nat → Nat) (k p : Nat) (R : Nat → Nat) : Bool × Nat × List (Nat × (Nat → Nat)) := if ts n T p < n then (if T (ts n T p) = 59 ∧ k ≠ 0 then rd n T k (te n T p) R else (false, p, [])) else (true, p, [])
theorem rd_T1 {n : Nat} {T : Nat → Nat} {k p p' p2 : Nat} {R N : Nat → Nat} {L : List (Nat × (Nat → Nat))} (h : clz n T R p = (true, p', N)) (h2 : rdT n T k p' (nxR R (clW n T p) N) = (true, p2, L)) : rd n T (k + 1) p R = (true, p2, (clW n T p, N) :: L) := by
  unfold rdT at h2
  unfold rd
  rw [h]
  simp only
  split at h2
  · next h3 =>
    rw [if_pos h3]
    split at h2
    · next h4 => rw [if_pos h4, h2]
    · cases h2
  · next h3 =>
    rw [if_neg h3]
    cases h2
    rfl
theorem rd_T0 {n : Nat} {T : Nat → Nat} {k p p' p2 : Nat} {R N : Nat → Nat} {L : List (Nat × (Nat → Nat))} (h : clz n T R p = (true, p', N)) (h2 : rdT n T k p' (nxR R (clW n T p) N) = (false, p2, L)) : ∃ L', rd n T (k + 1) p R = (false, p2, L') := by
  unfold rdT at h2
  unfold rd
  rw [h]
  simp only
  split at h2
  · next h3 =>
    rw [if_pos h3]
    split at h2
    · next h4 => rw [if_pos h4, h2]; exact ⟨_, rfl⟩
    · next h4 => rw [if_neg h4]; cases h2; exact ⟨_, rfl⟩
  · cases h2
theorem MW_fr {σ σ' : ip_G} (h : MW σ) (h1 : σ' 101 = σ 101) : MW σ' := fun w hw k hk => by rw [h1]; exact h w hw k hk
theorem L_reads (E : ip_E) {n : Nat} {T : Nat → Nat} {dg : Bool} (κ : Option Value → ip_G → Prop) : ∀ (k p : Nat) (R : Nat → Nat) (S : dSt) (σ : ip_G), k ≤ 23 → MX σ n T p → RM σ R → WR R → MW σ → MQs σ S → gS S → σ 92 14 = nI (b2n dg) → σ 92 13 = nI (24 - k) → (dg = true → rS R S) → (∀ b p2 L σ2, rdT n T k p R = (b, p2, L) → MX σ2 n T p2 → (b = true → σ2 92 13 = nI (24 - k + L.length) ∧ MQs σ2 (if dg = true then doL L S else S)) → (dg = false → MQs σ2 S) → frZ σ σ2 → κ (some (.int (nI (b2n b)))) σ2) → wp E 128 69 [.ref 92, .int (nI (b2n dg)), .int (nI 1)] [] σ κ := by
  intro k
  induction k with
  | zero =>
    intro p R S σ hk23 hX hR hW hMW hQ hg hd hc hS hk
    have hn := hX.1.2.1
    have htl := te_le (T := T) hX.2.2.2
    rw [I_128_69]
    by_cases h0 : ts n T p < n
    · have q0 : ¬ nI n ≤ nI (ts n T p) := nI_ge h0 (by omega)
      have qc : nI 24 ≤ nI 24 := nI_le (by omega) (by omega)
      have hr : rdT n T 0 p R = (false, p, []) := by
        unfold rdT
        rw [if_pos h0, if_neg (fun z => z.2 rfl)]
      simp (disch := first | assumption | exact bz0 | exact bz1 | exact bzi | omega | decide +kernel) only [I_128_0, I_128_1, I_128_2, I_128_5, I_128_6, I_128_7, I_128_10, I_128_11, I_128_12, I_128_15, I_128_16, I_128_17, I_128_18, I_128_19, I_128_22, I_128_23, I_128_26, I_128_27, I_128_28, I_128_31, I_128_32, I_128_33, I_128_34, I_128_37, I_128_40, I_128_41, I_128_44, I_128_45, I_128_46, I_128_49, I_128_50, I_128_51, I_128_54, I_128_55, I_128_56, I_128_59, I_128_60, I_128_61, I_128_64, I_128_65, I_128_68, I_128_70, I_128_73, I_128_74, I_128_77, I_128_78, I_128_81, I_128_84, I_128_85, I_128_88, I_128_90, I_128_93, I_128_94, I_128_97, I_128_98, I_128_101, I_128_102, I_128_104, I_128_107, I_128_108, I_128_111, I_128_112, I_128_113, I_128_114, I_128_117, I_128_118, I_128_121, I_128_122, I_128_125, I_128_126, I_128_127, I_128_128, I_128_131, I_128_132, I_128_133, I_128_136, I_128_139, I_128_140, nz1, ↓reduceIte, hX.2.1, hX.1.1, q0, hc, qc, z00]
      rw [I_128_69]
      simp (disch := first | assumption | exact bz0 | exact bz1 | exact bzi | exact b2n_bz _ | omega | decide +kernel) only [I_128_0, I_128_1, I_128_2, I_128_5, I_128_6, I_128_7, I_128_10, I_128_11, I_128_12, I_128_15, I_128_16, I_128_17, I_128_18, I_128_19, I_128_22, I_128_23, I_128_26, I_128_27, I_128_28, I_128_31, I_128_32, I_128_33, I_128_34, I_128_37, I_128_40, I_128_41, I_128_44, I_128_45, I_128_46, I_128_49, I_128_50, I_128_51, I_128_54, I_128_55, I_128_56, I_128_59, I_128_60, I_128_61, I_128_64, I_128_65, I_128_68, I_128_70, I_128_73, I_128_74, I_128_77, I_128_78, I_128_81, I_128_84, I_128_85, I_128_88, I_128_90, I_128_93, I_128_94, I_128_97, I_128_98, I_128_101, I_128_102, I_128_104, I_128_107, I_128_108, I_128_111, I_128_112, I_128_113, I_128_114, I_128_117, I_128_118, I_128_121, I_128_122, I_128_125, I_128_126, I_128_127, I_128_128, I_128_131, I_128_132, I_128_133, I_128_136, I_128_139, I_128_140, z00, ↓reduceIte]
      exact hk false p [] σ hr hX (fun z => by cases z) (fun _ => hQ) (frZ_r σ)
    · have q0 : nI n ≤ nI (ts n T p) := nI_le (by omega) (by omega)
      have hr : rdT n T 0 p R = (true, p, []) := by unfold rdT; rw [if_neg h0]
      simp (disch := first | assumption | exact bz0 | exact bz1 | exact bzi | exact b2n_bz _ | omega | decide +kernel) only [I_128_0, I_128_1, I_128_2, I_128_5, I_128_6, I_128_7, I_128_10, I_128_11, I_128_12, I_128_15, I_128_16, I_128_17, I_128_18, I_128_19, I_128_22, I_128_23, I_128_26, I_128_27, I_128_28, I_128_31, I_128_32, I_128_33, I_128_34, I_128_37, I_128_40, I_128_41, I_128_44, I_128_45, I_128_46, I_128_49, I_128_50, I_128_51, I_128_54, I_128_55, I_128_56, I_128_59, I_128_60, I_128_61, I_128_64, I_128_65, I_128_68, I_128_70, I_128_73, I_128_74, I_128_77, I_128_78, I_128_81, I_128_84, I_128_85, I_128_88, I_128_90, I_128_93, I_128_94, I_128_97, I_128_98, I_128_101, I_128_102, I_128_104, I_128_107, I_128_108, I_128_111, I_128_112, I_128_113, I_128_114, I_128_117, I_128_118, I_128_121, I_128_122, I_128_125, I_128_126, I_128_127, I_128_128, I_128_131, I_128_132, I_128_133, I_128_136, I_128_139, I_128_140, nz1, ↓reduceIte, hX.2.1, hX.1.1, q0]
      refine hk true p [] σ hr hX (fun _ => ⟨hc, ?_⟩) (fun _ => hQ) (frZ_r σ)
      split
      · exact hQ
      · exact hQ
  | succ k ih =>
    intro p R S σ hk23 hX hR hW hMW hQ hg hd hc hS hk
    have hn := hX.1.2.1
    have htl := te_le (T := T) hX.2.2.2
    rw [I_128_69]
    by_cases h0 : ts n T p < n
    · have q0 : ¬ nI n ≤ nI (ts n T p) := nI_ge h0 (by omega)
      have qc : ¬ nI 24 ≤ nI (24 - (k + 1)) := nI_ge (by omega) (by omega)
      obtain ⟨t1, t2⟩ := hX.1.2.2 _ h0
      by_cases h59 : T (ts n T p) = 59
      · have q59 : nI (T (ts n T p)) = nI 59 := by rw [h59]
        have hrt : rdT n T (k + 1) p R = rd n T (k + 1) (te n T p) R := by
          unfold rdT
          rw [if_pos h0, if_pos ⟨h59, by omega⟩]
        rw [hrt] at hk
        simp (disch := first | assumption | exact bz0 | exact bz1 | exact bzi | omega | decide +kernel) only [I_128_0, I_128_1, I_128_2, I_128_5, I_128_6, I_128_7, I_128_10, I_128_11, I_128_12, I_128_15, I_128_16, I_128_17, I_128_18, I_128_19, I_128_22, I_128_23, I_128_26, I_128_27, I_128_28, I_128_31, I_128_32, I_128_33, I_128_34, I_128_37, I_128_40, I_128_41, I_128_44, I_128_45, I_128_46, I_128_49, I_128_50, I_128_51, I_128_54, I_128_55, I_128_56, I_128_59, I_128_60, I_128_61, I_128_64, I_128_65, I_128_68, I_128_70, I_128_73, I_128_74, I_128_77, I_128_78, I_128_81, I_128_84, I_128_85, I_128_88, I_128_90, I_128_93, I_128_94, I_128_97, I_128_98, I_128_101, I_128_102, I_128_104, I_128_107, I_128_108, I_128_111, I_128_112, I_128_113, I_128_114, I_128_117, I_128_118, I_128_121, I_128_122, I_128_125, I_128_126, I_128_127, I_128_128, I_128_131, I_128_132, I_128_133, I_128_136, I_128_139, I_128_140, rr_0_0, rr_0_1, rr_0_2, rr_0_3, rr_0_4, rr_0_5, rr_0_6, rr_0_7, rr_0_8, rr_1_0, rr_1_1, rr_1_2, rr_1_3, rr_2_4, rr_2_5, rr_2_6, rr_2_7, rr_2_8, rr_13_0, rr_15_4, rr_15_5, rr_15_6, rr_15_7, rr_15_8, rr_21_4, rr_21_5, rr_21_6, rr_21_7, rr_21_8, rr_27_4, rr_27_5, rr_27_6, rr_27_7, rr_27_8, rr_33_4, rr_33_5, rr_33_6, rr_33_7, rr_33_8, rr_39_4, rr_39_5, rr_39_6, rr_39_7, rr_39_8, rr_45_4, rr_45_5, rr_45_6, rr_45_7, rr_45_8, rr_51_4, rr_51_5, rr_51_6, rr_51_7, rr_51_8, rr_57_4, rr_57_5, rr_57_6, rr_57_7, rr_57_8, rr_63_2, rr_63_3, rr_63_4, rr_63_5, rr_68_0, rr_70_1, rr_70_2, rr_74_4, rr_74_5, rr_74_6, rr_74_7, rr_74_8, rr_80_4, rr_80_5, rr_80_6, rr_80_7, rr_80_8, rr_86_2, rr_88_2, rr_90_2, rr_92_0, rr_92_1, rr_92_5, rr_92_6, rr_92_8, rr_92_9, rr_92_12, rr_92_15, rr_92_16, rr_92_17, nz1, ↓reduceIte, hX.2.1, hX.1.1, q0, hc, qc, t1, q59, not_true_eq_false]
        refine m_nextToken E hX.1 hX.2.2.1 htl.2.1 _ (fun σ2 g1 g2 => ?_)
        simp (disch := first | assumption | exact bz0 | exact bz1 | exact bzi | omega | decide +kernel) only [I_128_0, I_128_1, I_128_2, I_128_5, I_128_6, I_128_7, I_128_10, I_128_11, I_128_12, I_128_15, I_128_16, I_128_17, I_128_18, I_128_19, I_128_22, I_128_23, I_128_26, I_128_27, I_128_28, I_128_31, I_128_32, I_128_33, I_128_34, I_128_37, I_128_40, I_128_41, I_128_44, I_128_45, I_128_46, I_128_49, I_128_50, I_128_51, I_128_54, I_128_55, I_128_56, I_128_59, I_128_60, I_128_61, I_128_64, I_128_65, I_128_68, I_128_70, I_128_73, I_128_74, I_128_77, I_128_78, I_128_81, I_128_84, I_128_85, I_128_88, I_128_90, I_128_93, I_128_94, I_128_97, I_128_98, I_128_101, I_128_102, I_128_104, I_128_107, I_128_108, I_128_111, I_128_112, I_128_113, I_128_114, I_128_117, I_128_118, I_128_121, I_128_122, I_128_125, I_128_126, I_128_127, I_128_128, I_128_131, I_128_132, I_128_133, I_128_136, I_128_139, I_128_140, Option.toList_none, Option.toList_some, List.cons_append, List.nil_append]
        have fQ : frQ σ σ2 := frN_Q g2
        refine m_readsClause E (S := S) (dg := dg) g1 (fun j hj => by rw [g2.1 99 (by omega)]; exact hR j hj) hW (MW_fr hMW (g2.1 101 (by omega))) (MQs_fr hg.1 hQ (fun j _ => by rw [g2.1 93 (by omega)]) (g2.2 2 (by omega) (by omega)) (g2.2 3 (by omega) (by omega)) (g2.1 94 (by omega))) hg (by rw [g2.2 14 (by omega) (by omega)]; exact hd) hS _ (fun b p2 N2 σ3 e1 e2 e3 e4 e5 e6 e7 => ?_)
        have c3 : σ3 92 13 = nI (24 - (k + 1)) := by rw [e6, g2.2 13 (by omega) (by omega)]; exact hc
        have fr3 : frZ σ σ3 := frZ_t (frQ_Z fQ) e5
        have fr4 : frZ σ (ip_u2 σ3 92 13 (nI (24 - (k + 1) + 1))) := frZ_t fr3 ⟨fun k h1 _ _ _ _ => u2_f h1, fun j _ _ _ _ h5 _ => u2_i h5, fun j _ => by rw [u2_f (by omega)]⟩
        have X4 : MX (ip_u2 σ3 92 13 (nI (24 - (k + 1) + 1))) n T p2 := MX_fr e2 (u2_i (by omega)) (u2_f (by omega)) (u2_i (by omega)) (u2_i (by omega))
        have d4 : (ip_u2 σ3 92 13 (nI (24 - (k + 1) + 1))) 92 14 = nI (b2n dg) := by rw [u2_i (by omega), e7, g2.2 14 (by omega) (by omega)]; exact hd
        cases b with
        | false =>
          have hr : rd n T (k + 1) (te n T p) R = (false, p2, []) := by
            unfold rd
            rw [e1]
          rw [if_neg (fun z => by cases z.1)] at e4
          simp (disch := first | assumption | exact bz0 | exact bz1 | exact bzi | omega | decide +kernel) only [I_128_0, I_128_1, I_128_2, I_128_5, I_128_6, I_128_7, I_128_10, I_128_11, I_128_12, I_128_15, I_128_16, I_128_17, I_128_18, I_128_19, I_128_22, I_128_23, I_128_26, I_128_27, I_128_28, I_128_31, I_128_32, I_128_33, I_128_34, I_128_37, I_128_40, I_128_41, I_128_44, I_128_45, I_128_46, I_128_49, I_128_50, I_128_51, I_128_54, I_128_55, I_128_56, I_128_59, I_128_60, I_128_61, I_128_64, I_128_65, I_128_68, I_128_70, I_128_73, I_128_74, I_128_77, I_128_78, I_128_81, I_128_84, I_128_85, I_128_88, I_128_90, I_128_93, I_128_94, I_128_97, I_128_98, I_128_101, I_128_102, I_128_104, I_128_107, I_128_108, I_128_111, I_128_112, I_128_113, I_128_114, I_128_117, I_128_118, I_128_121, I_128_122, I_128_125, I_128_126, I_128_127, I_128_128, I_128_131, I_128_132, I_128_133, I_128_136, I_128_139, I_128_140, Option.toList_some, List.cons_append, List.nil_append, c3, nI_add]
          rw [I_128_69]
          simp (disch := first | assumption | exact bz0 | exact bz1 | exact bzi | exact b2n_bz _ | omega | decide +kernel) only [I_128_0, I_128_1, I_128_2, I_128_5, I_128_6, I_128_7, I_128_10, I_128_11, I_128_12, I_128_15, I_128_16, I_128_17, I_128_18, I_128_19, I_128_22, I_128_23, I_128_26, I_128_27, I_128_28, I_128_31, I_128_32, I_128_33, I_128_34, I_128_37, I_128_40, I_128_41, I_128_44, I_128_45, I_128_46, I_128_49, I_128_50, I_128_51, I_128_54, I_128_55, I_128_56, I_128_59, I_128_60, I_128_61, I_128_64, I_128_65, I_128_68, I_128_70, I_128_73, I_128_74, I_128_77, I_128_78, I_128_81, I_128_84, I_128_85, I_128_88, I_128_90, I_128_93, I_128_94, I_128_97, I_128_98, I_128_101, I_128_102, I_128_104, I_128_107, I_128_108, I_128_111, I_128_112, I_128_113, I_128_114, I_128_117, I_128_118, I_128_121, I_128_122, I_128_125, I_128_126, I_128_127, I_128_128, I_128_131, I_128_132, I_128_133, I_128_136, I_128_139, I_128_140, nb0, ↓reduceIte]
          exact hk false p2 [] _ hr X4 (fun z => by cases z) (fun _ => MQs_fr hg.1 e4 (fun j _ => by rw [u2_f (by omega)]) (u2_i (by omega)) (u2_i (by omega)) (u2_f (by omega))) fr4
        | true =>
          have s4 : MQs (ip_u2 σ3 92 13 (nI (24 - (k + 1) + 1))) (if dg = true then doS (clW n T (te n T p), N2) S else S) := by
            have hg4 : WD (if true = true ∧ dg = true then doS (clW n T (te n T p), N2) S else S).1 := by
              cases hdg : dg with
              | false => rw [if_neg (fun z => by cases z.2)]; exact hg.1
              | true => rw [if_pos ⟨rfl, rfl⟩]; exact (doS_g hg (clz_v (hS hdg) hg e1)).1
            have := MQs_fr (σ' := ip_u2 σ3 92 13 (nI (24 - (k + 1) + 1))) hg4 e4 (fun j _ => by rw [u2_f (by omega)]) (u2_i (by omega)) (u2_i (by omega)) (u2_f (by omega))
            cases hdg : dg with
            | false => rw [hdg, if_neg (fun z => by cases z.2)] at this; exact this
            | true => rw [hdg, if_pos ⟨rfl, rfl⟩] at this; exact this
          simp (disch := first | assumption | exact bz0 | exact bz1 | exact bzi | omega | decide +kernel) only [I_128_0, I_128_1, I_128_2, I_128_5, I_128_6, I_128_7, I_128_10, I_128_11, I_128_12, I_128_15, I_128_16, I_128_17, I_128_18, I_128_19, I_128_22, I_128_23, I_128_26, I_128_27, I_128_28, I_128_31, I_128_32, I_128_33, I_128_34, I_128_37, I_128_40, I_128_41, I_128_44, I_128_45, I_128_46, I_128_49, I_128_50, I_128_51, I_128_54, I_128_55, I_128_56, I_128_59, I_128_60, I_128_61, I_128_64, I_128_65, I_128_68, I_128_70, I_128_73, I_128_74, I_128_77, I_128_78, I_128_81, I_128_84, I_128_85, I_128_88, I_128_90, I_128_93, I_128_94, I_128_97, I_128_98, I_128_101, I_128_102, I_128_104, I_128_107, I_128_108, I_128_111, I_128_112, I_128_113, I_128_114, I_128_117, I_128_118, I_128_121, I_128_122, I_128_125, I_128_126, I_128_127, I_128_128, I_128_131, I_128_132, I_128_133, I_128_136, I_128_139, I_128_140, Option.toList_some, List.cons_append, List.nil_append, c3, nI_add, b2n_t]
          have hgS : gS (if dg = true then doS (clW n T (te n T p), N2) S else S) := by
            cases hdg : dg with
            | false => exact hg
            | true => exact doS_g hg (clz_v (hS hdg) hg e1)
          refine ih p2 (nxR R (clW n T (te n T p)) N2) (if dg = true then doS (clW n T (te n T p), N2) S else S) _ (by omega) X4 (fun j hj => by rw [u2_f (by omega)]; exact e3 rfl j hj) (nxR_W hW e1) (MW_fr hMW (by rw [u2_f (by omega), e5.1 101 (by omega) (by omega) (by omega) (by omega) (by omega), g2.1 101 (by omega)])) s4 hgS d4 (by rw [u2_s, show 24 - (k + 1) + 1 = 24 - k by omega]) (fun hdg => ?_) (fun b p3 L σ5 f1 f2 f3 f4 f5 => ?_)
          · rw [hdg, if_pos rfl]
            exact nxR_S (hS hdg) hg (clz_v (hS hdg) hg e1)
          · cases b with
            | false =>
              obtain ⟨L', hr⟩ := rd_T0 e1 f1
              exact hk false p3 L' σ5 hr f2 (fun z => by cases z) (fun hdg => by have := f4 hdg; rw [hdg, if_neg (by decide)] at this; exact this) (frZ_t fr4 f5)
            | true =>
              have hr := rd_T1 e1 f1
              refine hk true p3 _ σ5 hr f2 (fun _ => ⟨?_, ?_⟩) (fun hdg => by have := f4 hdg; rw [hdg, if_neg (by decide)] at this; exact this) (frZ_t fr4 f5)
              · rw [(f3 rfl).1, List.length_cons, show 24 - (k + 1) + (L.length + 1) = 24 - k + L.length by omega]
              · have := (f3 rfl).2
                cases hdg : dg with
                | false => rw [hdg] at this; exact this
                | true => rw [hdg] at this; exact this
      · have q59 : ¬ nI (T (ts n T p)) = nI 59 := fun z => h59 ((nI_eq (by omega) (by omega)).mp z)
        have hr : rdT n T (k + 1) p R = (false, p, []) := by
          unfold rdT
          rw [if_pos h0, if_neg (fun z => h59 z.1)]
        simp (disch := first | assumption | exact bz0 | exact bz1 | exact bzi | omega | decide +kernel) only [I_128_0, I_128_1, I_128_2, I_128_5, I_128_6, I_128_7, I_128_10, I_128_11, I_128_12, I_128_15, I_128_16, I_128_17, I_128_18, I_128_19, I_128_22, I_128_23, I_128_26, I_128_27, I_128_28, I_128_31, I_128_32, I_128_33, I_128_34, I_128_37, I_128_40, I_128_41, I_128_44, I_128_45, I_128_46, I_128_49, I_128_50, I_128_51, I_128_54, I_128_55, I_128_56, I_128_59, I_128_60, I_128_61, I_128_64, I_128_65, I_128_68, I_128_70, I_128_73, I_128_74, I_128_77, I_128_78, I_128_81, I_128_84, I_128_85, I_128_88, I_128_90, I_128_93, I_128_94, I_128_97, I_128_98, I_128_101, I_128_102, I_128_104, I_128_107, I_128_108, I_128_111, I_128_112, I_128_113, I_128_114, I_128_117, I_128_118, I_128_121, I_128_122, I_128_125, I_128_126, I_128_127, I_128_128, I_128_131, I_128_132, I_128_133, I_128_136, I_128_139, I_128_140, rr_0_0, rr_0_1, rr_0_2, rr_0_3, rr_0_4, rr_0_5, rr_0_6, rr_0_7, rr_0_8, rr_1_0, rr_1_1, rr_1_2, rr_1_3, rr_2_4, rr_2_5, rr_2_6, rr_2_7, rr_2_8, rr_13_0, rr_15_4, rr_15_5, rr_15_6, rr_15_7, rr_15_8, rr_21_4, rr_21_5, rr_21_6, rr_21_7, rr_21_8, rr_27_4, rr_27_5, rr_27_6, rr_27_7, rr_27_8, rr_33_4, rr_33_5, rr_33_6, rr_33_7, rr_33_8, rr_39_4, rr_39_5, rr_39_6, rr_39_7, rr_39_8, rr_45_4, rr_45_5, rr_45_6, rr_45_7, rr_45_8, rr_51_4, rr_51_5, rr_51_6, rr_51_7, rr_51_8, rr_57_4, rr_57_5, rr_57_6, rr_57_7, rr_57_8, rr_63_2, rr_63_3, rr_63_4, rr_63_5, rr_68_0, rr_70_1, rr_70_2, rr_74_4, rr_74_5, rr_74_6, rr_74_7, rr_74_8, rr_80_4, rr_80_5, rr_80_6, rr_80_7, rr_80_8, rr_86_2, rr_88_2, rr_90_2, rr_92_0, rr_92_1, rr_92_5, rr_92_6, rr_92_8, rr_92_9, rr_92_12, rr_92_15, rr_92_16, rr_92_17, nz1, ↓reduceIte, hX.2.1, hX.1.1, q0, hc, qc, t1, q59, not_false_eq_true, z00]
        rw [I_128_69]
        simp (disch := first | assumption | exact bz0 | exact bz1 | exact bzi | exact b2n_bz _ | omega | decide +kernel) only [I_128_0, I_128_1, I_128_2, I_128_5, I_128_6, I_128_7, I_128_10, I_128_11, I_128_12, I_128_15, I_128_16, I_128_17, I_128_18, I_128_19, I_128_22, I_128_23, I_128_26, I_128_27, I_128_28, I_128_31, I_128_32, I_128_33, I_128_34, I_128_37, I_128_40, I_128_41, I_128_44, I_128_45, I_128_46, I_128_49, I_128_50, I_128_51, I_128_54, I_128_55, I_128_56, I_128_59, I_128_60, I_128_61, I_128_64, I_128_65, I_128_68, I_128_70, I_128_73, I_128_74, I_128_77, I_128_78, I_128_81, I_128_84, I_128_85, I_128_88, I_128_90, I_128_93, I_128_94, I_128_97, I_128_98, I_128_101, I_128_102, I_128_104, I_128_107, I_128_108, I_128_111, I_128_112, I_128_113, I_128_114, I_128_117, I_128_118, I_128_121, I_128_122, I_128_125, I_128_126, I_128_127, I_128_128, I_128_131, I_128_132, I_128_133, I_128_136, I_128_139, I_128_140, z00, ↓reduceIte]
        exact hk false p [] σ hr hX (fun z => by cases z) (fun _ => hQ) (frZ_r σ)
    · have q0 : nI n ≤ nI (ts n T p) := nI_le (by omega) (by omega)
      have hr : rdT n T (k + 1) p R = (true, p, []) := by unfold rdT; rw [if_neg h0]
      simp (disch := first | assumption | exact bz0 | exact bz1 | exact bzi | exact b2n_bz _ | omega | decide +kernel) only [I_128_0, I_128_1, I_128_2, I_128_5, I_128_6, I_128_7, I_128_10, I_128_11, I_128_12, I_128_15, I_128_16, I_128_17, I_128_18, I_128_19, I_128_22, I_128_23, I_128_26, I_128_27, I_128_28, I_128_31, I_128_32, I_128_33, I_128_34, I_128_37, I_128_40, I_128_41, I_128_44, I_128_45, I_128_46, I_128_49, I_128_50, I_128_51, I_128_54, I_128_55, I_128_56, I_128_59, I_128_60, I_128_61, I_128_64, I_128_65, I_128_68, I_128_70, I_128_73, I_128_74, I_128_77, I_128_78, I_128_81, I_128_84, I_128_85, I_128_88, I_128_90, I_128_93, I_128_94, I_128_97, I_128_98, I_128_101, I_128_102, I_128_104, I_128_107, I_128_108, I_128_111, I_128_112, I_128_113, I_128_114, I_128_117, I_128_118, I_128_121, I_128_122, I_128_125, I_128_126, I_128_127, I_128_128, I_128_131, I_128_132, I_128_133, I_128_136, I_128_139, I_128_140, nz1, ↓reduceIte, hX.2.1, hX.1.1, q0]
      refine hk true p [] σ hr hX (fun _ => ⟨hc, ?_⟩) (fun _ => hQ) (frZ_r σ)
      split
      · exact hQ
      · exact hQ
theorem L_reads0 (E : ip_E) {D : Nat → Nat} {b1 : Int32} (κ : Option Value → ip_G → Prop) : ∀ (m i : Nat) (σ : ip_G), i + m = 4 → MD σ 0 D → (∀ j, j < i → σ 99 j = nI (D j)) → (∀ σ2, (∀ j, j < 4 → σ2 99 j = nI (D j)) → (∀ k, k ≠ 99 → σ2 k = σ k) → wp E 128 40 [.ref 92, .int b1, .int (nI 4)] [] σ2 κ) → wp E 128 17 [.ref 92, .int b1, .int (nI i)] [] σ κ := by
  intro m
  induction m with
  | zero =>
    intro i σ hi hM hr hk
    have : i = 4 := by omega
    subst this
    have hc : nI 4 ≤ nI 4 := nI_le (by omega) (by omega)
    simp (disch := first | assumption | exact bz0 | exact bz1 | exact bzi | omega | decide +kernel) only [I_128_0, I_128_1, I_128_2, I_128_5, I_128_6, I_128_7, I_128_10, I_128_11, I_128_12, I_128_15, I_128_16, I_128_17, I_128_18, I_128_19, I_128_22, I_128_23, I_128_26, I_128_27, I_128_28, I_128_31, I_128_32, I_128_33, I_128_34, I_128_37, I_128_41, I_128_44, I_128_45, I_128_46, I_128_49, I_128_50, I_128_51, I_128_54, I_128_55, I_128_56, I_128_59, I_128_60, I_128_61, I_128_64, I_128_65, I_128_68, I_128_70, I_128_73, I_128_74, I_128_77, I_128_78, I_128_81, I_128_84, I_128_85, I_128_88, I_128_90, I_128_93, I_128_94, I_128_97, I_128_98, I_128_101, I_128_102, I_128_104, I_128_107, I_128_108, I_128_111, I_128_112, I_128_113, I_128_114, I_128_117, I_128_118, I_128_121, I_128_122, I_128_125, I_128_126, I_128_127, I_128_128, I_128_131, I_128_132, I_128_133, I_128_136, I_128_139, I_128_140, hc, ↓reduceIte]
    exact hk σ hr (fun _ _ => rfl)
  | succ m ih =>
    intro i σ hi hM hr hk
    have hc : ¬ nI 4 ≤ nI i := nI_ge (by omega) (by omega)
    have v := (MD0 hM).1 i (by omega)
    rw [I_128_17]
    simp (disch := first | assumption | exact bz0 | exact bz1 | exact bzi | omega | decide +kernel) only [I_128_0, I_128_1, I_128_2, I_128_5, I_128_6, I_128_7, I_128_10, I_128_11, I_128_12, I_128_15, I_128_16, I_128_18, I_128_19, I_128_22, I_128_23, I_128_26, I_128_27, I_128_28, I_128_31, I_128_32, I_128_33, I_128_34, I_128_37, I_128_41, I_128_44, I_128_45, I_128_46, I_128_49, I_128_50, I_128_51, I_128_54, I_128_55, I_128_56, I_128_59, I_128_60, I_128_61, I_128_64, I_128_65, I_128_68, I_128_70, I_128_73, I_128_74, I_128_77, I_128_78, I_128_81, I_128_84, I_128_85, I_128_88, I_128_90, I_128_93, I_128_94, I_128_97, I_128_98, I_128_101, I_128_102, I_128_104, I_128_107, I_128_108, I_128_111, I_128_112, I_128_113, I_128_114, I_128_117, I_128_118, I_128_121, I_128_122, I_128_125, I_128_126, I_128_127, I_128_128, I_128_131, I_128_132, I_128_133, I_128_136, I_128_139, I_128_140, rr_0_0, rr_0_1, rr_0_2, rr_0_3, rr_0_4, rr_0_5, rr_0_6, rr_0_7, rr_0_8, rr_1_0, rr_1_1, rr_1_2, rr_1_3, rr_2_4, rr_2_5, rr_2_6, rr_2_7, rr_2_8, rr_13_0, rr_15_4, rr_15_5, rr_15_6, rr_15_7, rr_15_8, rr_21_4, rr_21_5, rr_21_6, rr_21_7, rr_21_8, rr_27_4, rr_27_5, rr_27_6, rr_27_7, rr_27_8, rr_33_4, rr_33_5, rr_33_6, rr_33_7, rr_33_8, rr_39_4, rr_39_5, rr_39_6, rr_39_7, rr_39_8, rr_45_4, rr_45_5, rr_45_6, rr_45_7, rr_45_8, rr_51_4, rr_51_5, rr_51_6, rr_51_7, rr_51_8, rr_57_4, rr_57_5, rr_57_6, rr_57_7, rr_57_8, rr_63_2, rr_63_3, rr_63_4, rr_63_5, rr_68_0, rr_70_1, rr_70_2, rr_74_4, rr_74_5, rr_74_6, rr_74_7, rr_74_8, rr_80_4, rr_80_5, rr_80_6, rr_80_7, rr_80_8, rr_86_2, rr_88_2, rr_90_2, rr_92_0, rr_92_1, rr_92_5, rr_92_6, rr_92_8, rr_92_9, rr_92_12, rr_92_15, rr_92_16, rr_92_17, hc, ↓reduceIte, v, nI_add]
    refine ih (i + 1) _ (by omega) ?_ (fun j hj => ?_) (fun σ2 a b => hk σ2 a (fun k h => by rw [b k h, u2_f h]))
    · unfold MD
      rw [u2_f (by omega)]
      exact hM
    · by_cases e : j = i
      · rw [e, u2_s]
      · rw [u2_i e]; exact hr j (by omega)
theorem m_reads (E : ip_E) {σ : ip_G} {n : Nat} {T : Nat → Nat} {D : Nat → Nat} {r c : Nat} {X : Nat → Nat} (dg : Bool) (hT : MT σ n T) (hMW : MW σ) (hM : MD σ 0 D) (hX : MM σ r c X) (hW : WD D) (hWX : WX r c X) (κ : Option Value → ip_G → Prop) (hk : ∀ b p2 L σ2, rd n T 24 0 (rz D r c) = (b, p2, L) → MX σ2 n T p2 → (b = true → σ2 92 13 = nI L.length ∧ MQs σ2 (if dg = true then doL L (D, r, c, X) else (D, r, c, X))) → (dg = false → MQs σ2 (D, r, c, X)) → frZ σ σ2 → κ (some (.int (nI (b2n b)))) σ2) : wp E 128 0 [.ref 92, .int (nI (b2n dg)), .retAddr 0] [] σ κ := by
  have hg : gS (D, r, c, X) := ⟨hW, hWX⟩
  have hWR : WR (rz D r c) := rz_W hW hWX
  simp (disch := first | assumption | exact bz0 | exact bz1 | exact bzi | exact b2n_bz _ | omega | decide +kernel) only [I_128_0, I_128_1, I_128_2, I_128_5, I_128_6, I_128_7, I_128_10, I_128_11, I_128_12, I_128_15, I_128_16, I_128_18, I_128_19, I_128_22, I_128_23, I_128_26, I_128_27, I_128_28, I_128_31, I_128_32, I_128_33, I_128_34, I_128_37, I_128_40, I_128_41, I_128_44, I_128_45, I_128_46, I_128_49, I_128_50, I_128_51, I_128_54, I_128_55, I_128_56, I_128_59, I_128_60, I_128_61, I_128_64, I_128_65, I_128_68, I_128_69, I_128_70, I_128_73, I_128_74, I_128_77, I_128_78, I_128_81, I_128_84, I_128_85, I_128_88, I_128_90, I_128_93, I_128_94, I_128_97, I_128_98, I_128_101, I_128_102, I_128_104, I_128_107, I_128_108, I_128_111, I_128_112, I_128_113, I_128_114, I_128_117, I_128_118, I_128_121, I_128_122, I_128_125, I_128_126, I_128_127, I_128_128, I_128_131, I_128_132, I_128_133, I_128_136, I_128_139, I_128_140]
  refine L_reads0 E (D := D) κ 4 0 _ (by omega) (MD_fr hW hM (fun j _ _ => by rw [u2_f (by omega), u2_f (by omega), u2_f (by omega)])) (fun j hj => absurd hj (by omega)) (fun σ2 a1 a2 => ?_)
  have z : ∀ k, k ≠ 92 → k ≠ 99 → σ2 k = σ k := fun k h1 h2 => by rw [a2 k h2, u2_f h1, u2_f h1, u2_f h1]
  have z92 : ∀ j, j ≠ 11 → j ≠ 13 → j ≠ 14 → σ2 92 j = σ 92 j := fun j h1 h2 h3 => by rw [a2 92 (by omega), u2_i h2, u2_i h1, u2_i h3]
  have y11 : σ2 92 11 = nI 0 := by rw [a2 92 (by omega), u2_i (by omega), u2_s]
  have y13 : σ2 92 13 = nI 1 := by rw [a2 92 (by omega), u2_s]
  have y14 : σ2 92 14 = nI (b2n dg) := by rw [a2 92 (by omega), u2_i (by omega), u2_i (by omega), u2_s]
  have y2 : σ2 92 2 = nI r := by rw [z92 2 (by omega) (by omega) (by omega)]; exact hX.1
  have y3 : σ2 92 3 = nI c := by rw [z92 3 (by omega) (by omega) (by omega)]; exact hX.2.1
  simp (disch := first | assumption | exact bz0 | exact bz1 | exact bzi | omega | decide +kernel) only [I_128_0, I_128_1, I_128_2, I_128_5, I_128_6, I_128_7, I_128_10, I_128_11, I_128_12, I_128_15, I_128_16, I_128_18, I_128_19, I_128_22, I_128_23, I_128_26, I_128_27, I_128_28, I_128_31, I_128_32, I_128_33, I_128_34, I_128_37, I_128_40, I_128_41, I_128_44, I_128_45, I_128_46, I_128_49, I_128_50, I_128_51, I_128_54, I_128_55, I_128_56, I_128_59, I_128_60, I_128_61, I_128_64, I_128_65, I_128_68, I_128_69, I_128_70, I_128_73, I_128_74, I_128_77, I_128_78, I_128_81, I_128_84, I_128_85, I_128_88, I_128_90, I_128_93, I_128_94, I_128_97, I_128_98, I_128_101, I_128_102, I_128_104, I_128_107, I_128_108, I_128_111, I_128_112, I_128_113, I_128_114, I_128_117, I_128_118, I_128_121, I_128_122, I_128_125, I_128_126, I_128_127, I_128_128, I_128_131, I_128_132, I_128_133, I_128_136, I_128_139, I_128_140, rr_0_0, rr_0_1, rr_0_2, rr_0_3, rr_0_4, rr_0_5, rr_0_6, rr_0_7, rr_0_8, rr_1_0, rr_1_1, rr_1_2, rr_1_3, rr_2_4, rr_2_5, rr_2_6, rr_2_7, rr_2_8, rr_13_0, rr_15_4, rr_15_5, rr_15_6, rr_15_7, rr_15_8, rr_21_4, rr_21_5, rr_21_6, rr_21_7, rr_21_8, rr_27_4, rr_27_5, rr_27_6, rr_27_7, rr_27_8, rr_33_4, rr_33_5, rr_33_6, rr_33_7, rr_33_8, rr_39_4, rr_39_5, rr_39_6, rr_39_7, rr_39_8, rr_45_4, rr_45_5, rr_45_6, rr_45_7, rr_45_8, rr_51_4, rr_51_5, rr_51_6, rr_51_7, rr_51_8, rr_57_4, rr_57_5, rr_57_6, rr_57_7, rr_57_8, rr_63_2, rr_63_3, rr_63_4, rr_63_5, rr_68_0, rr_70_1, rr_70_2, rr_74_4, rr_74_5, rr_74_6, rr_74_7, rr_74_8, rr_80_4, rr_80_5, rr_80_6, rr_80_7, rr_80_8, rr_86_2, rr_88_2, rr_90_2, rr_92_0, rr_92_1, rr_92_5, rr_92_6, rr_92_8, rr_92_9, rr_92_12, rr_92_15, rr_92_16, rr_92_17, y2, u2_k, y3]
  have s3 : ∀ k, k ≠ 99 → (ip_u2 (ip_u2 σ2 99 4 (nI r)) 99 5 (nI c)) k = σ2 k := fun k h => by rw [u2_f h, u2_f h]
  refine m_nextToken E (n := n) (T := T) (p := 0) (MT_fr hT (by rw [s3 92 (by omega)]; exact z92 7 (by omega) (by omega) (by omega)) (by rw [s3 96 (by omega)]; exact z 96 (by omega) (by omega))) (by rw [s3 92 (by omega)]; exact y11) (Nat.zero_le _) _ (fun σ4 g1 g2 => ?_)
  simp (disch := first | assumption | exact bz0 | exact bz1 | exact bzi | omega | decide +kernel) only [I_128_0, I_128_1, I_128_2, I_128_5, I_128_6, I_128_7, I_128_10, I_128_11, I_128_12, I_128_15, I_128_16, I_128_17, I_128_18, I_128_19, I_128_22, I_128_23, I_128_26, I_128_27, I_128_28, I_128_31, I_128_32, I_128_33, I_128_34, I_128_37, I_128_40, I_128_41, I_128_44, I_128_45, I_128_46, I_128_49, I_128_50, I_128_51, I_128_54, I_128_55, I_128_56, I_128_59, I_128_60, I_128_61, I_128_64, I_128_65, I_128_68, I_128_70, I_128_73, I_128_74, I_128_77, I_128_78, I_128_81, I_128_84, I_128_85, I_128_88, I_128_90, I_128_93, I_128_94, I_128_97, I_128_98, I_128_101, I_128_102, I_128_104, I_128_107, I_128_108, I_128_111, I_128_112, I_128_113, I_128_114, I_128_117, I_128_118, I_128_121, I_128_122, I_128_125, I_128_126, I_128_127, I_128_128, I_128_131, I_128_132, I_128_133, I_128_136, I_128_139, I_128_140, Option.toList_none, Option.toList_some, List.cons_append, List.nil_append]
  have w92 : ∀ j, j ≠ 10 → j ≠ 11 → σ4 92 j = σ2 92 j := fun j h1 h2 => by rw [g2.2 j h1 h2, s3 92 (by omega)]
  have w : ∀ k, k ≠ 92 → k ≠ 99 → σ4 k = σ k := fun k h1 h2 => by rw [g2.1 k h1, s3 k h2, z k h1 h2]
  have R4 : RM σ4 (rz D r c) := fun j hj => by
    rw [g2.1 99 (by omega)]
    unfold rz
    by_cases h : j < 4
    · rw [if_pos h, u2_i (by omega), u2_i (by omega)]; exact a1 j h
    · rw [if_neg h]
      by_cases h4 : j = 4
      · rw [if_pos h4, h4, u2_i (by omega), u2_s]
      · rw [if_neg h4, show j = 5 by omega, u2_s]
  have Q4 : MQs σ4 (D, r, c, X) := ⟨MD_fr hW hM (fun j _ _ => by rw [w 93 (by omega) (by omega)]), MM_fr hX (by rw [w92 2 (by omega) (by omega)]; exact z92 2 (by omega) (by omega) (by omega)) (by rw [w92 3 (by omega) (by omega)]; exact z92 3 (by omega) (by omega) (by omega)) (w 94 (by omega) (by omega))⟩
  have fr4 : frZ σ σ4 := ⟨fun k h1 _ _ h4 _ => w k h1 h4, fun j _ _ h3 h4 h5 h6 => by rw [w92 j h3 h4]; exact z92 j h4 h5 h6, fun j _ => by rw [w 93 (by omega) (by omega)]⟩
  refine m_readsClause E (S := (D, r, c, X)) (dg := dg) g1 R4 hWR (MW_fr hMW (w 101 (by omega) (by omega))) Q4 hg (by rw [w92 14 (by omega) (by omega)]; exact y14) (fun _ => rz_S) _ (fun b p2 N2 σ5 e1 e2 e3 e4 e5 e6 e7 => ?_)
  have c5 : σ5 92 13 = nI 1 := by rw [e6, w92 13 (by omega) (by omega)]; exact y13
  have d5 : σ5 92 14 = nI (b2n dg) := by rw [e7, w92 14 (by omega) (by omega)]; exact y14
  cases b with
  | false =>
    have hr : rd n T 24 0 (rz D r c) = (false, p2, []) := by
      unfold rd
      rw [e1]
    rw [if_neg (fun z => by cases z.1)] at e4
    simp (disch := first | assumption | exact bz0 | exact bz1 | exact bzi | omega | decide +kernel) only [I_128_0, I_128_1, I_128_2, I_128_5, I_128_6, I_128_7, I_128_10, I_128_11, I_128_12, I_128_15, I_128_16, I_128_17, I_128_18, I_128_19, I_128_22, I_128_23, I_128_26, I_128_27, I_128_28, I_128_31, I_128_32, I_128_33, I_128_34, I_128_37, I_128_40, I_128_41, I_128_44, I_128_45, I_128_46, I_128_49, I_128_50, I_128_51, I_128_54, I_128_55, I_128_56, I_128_59, I_128_60, I_128_61, I_128_64, I_128_65, I_128_68, I_128_70, I_128_73, I_128_74, I_128_77, I_128_78, I_128_81, I_128_84, I_128_85, I_128_88, I_128_90, I_128_93, I_128_94, I_128_97, I_128_98, I_128_101, I_128_102, I_128_104, I_128_107, I_128_108, I_128_111, I_128_112, I_128_113, I_128_114, I_128_117, I_128_118, I_128_121, I_128_122, I_128_125, I_128_126, I_128_127, I_128_128, I_128_131, I_128_132, I_128_133, I_128_136, I_128_139, I_128_140, Option.toList_some, List.cons_append, List.nil_append]
    rw [I_128_69]
    simp (disch := first | assumption | exact bz0 | exact bz1 | exact bzi | exact b2n_bz _ | omega | decide +kernel) only [I_128_0, I_128_1, I_128_2, I_128_5, I_128_6, I_128_7, I_128_10, I_128_11, I_128_12, I_128_15, I_128_16, I_128_17, I_128_18, I_128_19, I_128_22, I_128_23, I_128_26, I_128_27, I_128_28, I_128_31, I_128_32, I_128_33, I_128_34, I_128_37, I_128_40, I_128_41, I_128_44, I_128_45, I_128_46, I_128_49, I_128_50, I_128_51, I_128_54, I_128_55, I_128_56, I_128_59, I_128_60, I_128_61, I_128_64, I_128_65, I_128_68, I_128_70, I_128_73, I_128_74, I_128_77, I_128_78, I_128_81, I_128_84, I_128_85, I_128_88, I_128_90, I_128_93, I_128_94, I_128_97, I_128_98, I_128_101, I_128_102, I_128_104, I_128_107, I_128_108, I_128_111, I_128_112, I_128_113, I_128_114, I_128_117, I_128_118, I_128_121, I_128_122, I_128_125, I_128_126, I_128_127, I_128_128, I_128_131, I_128_132, I_128_133, I_128_136, I_128_139, I_128_140, nb0, ↓reduceIte]
    exact hk false p2 [] σ5 hr e2 (fun z => by cases z) (fun _ => e4) (frZ_t fr4 e5)
  | true =>
    simp (disch := first | assumption | exact bz0 | exact bz1 | exact bzi | omega | decide +kernel) only [I_128_0, I_128_1, I_128_2, I_128_5, I_128_6, I_128_7, I_128_10, I_128_11, I_128_12, I_128_15, I_128_16, I_128_17, I_128_18, I_128_19, I_128_22, I_128_23, I_128_26, I_128_27, I_128_28, I_128_31, I_128_32, I_128_33, I_128_34, I_128_37, I_128_40, I_128_41, I_128_44, I_128_45, I_128_46, I_128_49, I_128_50, I_128_51, I_128_54, I_128_55, I_128_56, I_128_59, I_128_60, I_128_61, I_128_64, I_128_65, I_128_68, I_128_70, I_128_73, I_128_74, I_128_77, I_128_78, I_128_81, I_128_84, I_128_85, I_128_88, I_128_90, I_128_93, I_128_94, I_128_97, I_128_98, I_128_101, I_128_102, I_128_104, I_128_107, I_128_108, I_128_111, I_128_112, I_128_113, I_128_114, I_128_117, I_128_118, I_128_121, I_128_122, I_128_125, I_128_126, I_128_127, I_128_128, I_128_131, I_128_132, I_128_133, I_128_136, I_128_139, I_128_140, Option.toList_some, List.cons_append, List.nil_append, b2n_t]
    have hgS : gS (if dg = true then doS (clW n T 0, N2) (D, r, c, X) else (D, r, c, X)) := by
      cases hdg : dg with
      | false => exact hg
      | true => exact doS_g hg (clz_v rz_S hg e1)
    have s5 : MQs σ5 (if dg = true then doS (clW n T 0, N2) (D, r, c, X) else (D, r, c, X)) := by
      cases hdg : dg with
      | false => rw [hdg, if_neg (fun z => by cases z.2)] at e4; exact e4
      | true => rw [hdg, if_pos ⟨rfl, rfl⟩] at e4; exact e4
    refine L_reads E (dg := dg) κ 23 p2 (nxR (rz D r c) (clW n T 0) N2) (if dg = true then doS (clW n T 0, N2) (D, r, c, X) else (D, r, c, X)) σ5 (by omega) e2 (e3 rfl) (nxR_W hWR e1) (MW_fr hMW (by rw [e5.1 101 (by omega) (by omega) (by omega) (by omega) (by omega)]; exact w 101 (by omega) (by omega))) s5 hgS d5 c5 (fun hdg => ?_) (fun b p3 L σ6 f1 f2 f3 f4 f5 => ?_)
    · rw [hdg, if_pos rfl]
      exact nxR_S rz_S hg (clz_v rz_S hg e1)
    · cases b with
      | false =>
        obtain ⟨L', hr⟩ := rd_T0 e1 f1
        exact hk false p3 L' σ6 hr f2 (fun z => by cases z) (fun hdg => by have := f4 hdg; rw [hdg, if_neg (by decide)] at this; exact this) (frZ_t (frZ_t fr4 e5) f5)
      | true =>
        have hr := rd_T1 e1 f1
        refine hk true p3 _ σ6 hr f2 (fun _ => ⟨?_, ?_⟩) (fun hdg => by have := f4 hdg; rw [hdg, if_neg (by decide)] at this; exact this) (frZ_t (frZ_t fr4 e5) f5)
        · rw [(f3 rfl).1, List.length_cons, show 24 - 23 + L.length = L.length + 1 by omega]
        · have := (f3 rfl).2
          cases hdg : dg with
          | false => rw [hdg] at this; exact this
          | true => rw [hdg] at this; exact this
theorem m_fault (E : ip_E) {σ : ip_G} {n : Nat} {T : Nat → Nat} {D : Nat → Nat} {r c : Nat} {X : Nat → Nat} (hT : MT σ n T) (hMW : MW σ) (hM : MD σ 0 D) (hX : MM σ r c X) (hW : WD D) (hWX : WX r c X) (κ : Option Value → ip_G → Prop) (hk : ∀ σ2, MT σ2 n T → MQs σ2 (D, r, c, X) → frZ σ σ2 → κ (some (.int (fltR n T D r c))) σ2) : wp E 127 0 [.ref 92] [] σ κ := by
  simp (disch := first | assumption | exact bz0 | exact bz1 | exact bzi | omega | decide +kernel) only [I_127_0, I_127_1, I_127_2, I_127_5, I_127_8, I_127_9, I_127_12, I_127_13, I_127_16]
  refine m_reads E false hT hMW hM hX hW hWX _ (fun b p2 L σ2 e1 e2 e3 e4 e5 => ?_)
  have hf : fltR n T D r c = if b = true then -1 else nI (ts n T p2) := by unfold fltR; rw [e1]
  have fin := hk σ2 e2.1 (e4 rfl) e5
  rw [hf] at fin
  cases b with
  | false =>
    simp only [Bool.false_eq_true, ↓reduceIte] at fin
    simp (disch := first | assumption | exact bz0 | exact bz1 | exact bzi | omega | decide +kernel) only [I_127_0, I_127_1, I_127_2, I_127_5, I_127_8, I_127_9, I_127_12, I_127_13, I_127_16, Option.toList_some, List.cons_append, List.nil_append, nb0, ↓reduceIte, e2.2.1]
    exact fin
  | true =>
    simp only [↓reduceIte] at fin
    simp (disch := first | assumption | exact bz0 | exact bz1 | exact bzi | omega | decide +kernel) only [I_127_0, I_127_1, I_127_2, I_127_5, I_127_8, I_127_9, I_127_12, I_127_13, I_127_16, Option.toList_some, List.cons_append, List.nil_append, nb1, ↓reduceIte]
    exact fin
theorem L_mdraft (E : ip_E) (κ : Option Value → ip_G → Prop) : ∀ (m i : Nat) (σ : ip_G), i + m = 3 → (∀ j, j < i → σ 97 j = -1) → (∀ σ2, (∀ j, j < 3 → σ2 97 j = -1) → (∀ k, k ≠ 97 → σ2 k = σ k) → wp E 139 61 [.ref 92, .int (nI 3)] [] σ2 κ) → wp E 139 43 [.ref 92, .int (nI i)] [] σ κ := by
  intro m
  induction m with
  | zero =>
    intro i σ hi hr hk
    have : i = 3 := by omega
    subst this
    have hc : nI 3 ≤ nI 3 := nI_le (by omega) (by omega)
    simp (disch := first | assumption | exact bz0 | exact bz1 | exact bzi | omega | decide +kernel) only [I_139_0, I_139_1, I_139_2, I_139_5, I_139_8, I_139_10, I_139_11, I_139_12, I_139_13, I_139_16, I_139_17, I_139_18, I_139_19, I_139_22, I_139_23, I_139_24, I_139_27, I_139_28, I_139_31, I_139_32, I_139_33, I_139_34, I_139_35, I_139_38, I_139_39, I_139_40, I_139_41, I_139_42, I_139_43, I_139_44, I_139_45, I_139_48, I_139_49, I_139_52, I_139_53, I_139_54, I_139_55, I_139_58, I_139_62, I_139_65, hc, ↓reduceIte]
    exact hk σ hr (fun _ _ => rfl)
  | succ m ih =>
    intro i σ hi hr hk
    have hc : ¬ nI 3 ≤ nI i := nI_ge (by omega) (by omega)
    rw [I_139_43]
    simp (disch := first | assumption | exact bz0 | exact bz1 | exact bzi | omega | decide +kernel) only [I_139_0, I_139_1, I_139_2, I_139_5, I_139_8, I_139_10, I_139_11, I_139_12, I_139_13, I_139_16, I_139_17, I_139_18, I_139_19, I_139_22, I_139_23, I_139_24, I_139_27, I_139_28, I_139_31, I_139_32, I_139_33, I_139_34, I_139_35, I_139_38, I_139_39, I_139_40, I_139_41, I_139_42, I_139_44, I_139_45, I_139_48, I_139_49, I_139_52, I_139_53, I_139_54, I_139_55, I_139_58, I_139_62, I_139_65, rr_0_0, rr_0_1, rr_0_2, rr_0_3, rr_0_4, rr_0_5, rr_0_6, rr_0_7, rr_0_8, rr_1_0, rr_1_1, rr_1_2, rr_1_3, rr_2_4, rr_2_5, rr_2_6, rr_2_7, rr_2_8, rr_13_0, rr_15_4, rr_15_5, rr_15_6, rr_15_7, rr_15_8, rr_21_4, rr_21_5, rr_21_6, rr_21_7, rr_21_8, rr_27_4, rr_27_5, rr_27_6, rr_27_7, rr_27_8, rr_33_4, rr_33_5, rr_33_6, rr_33_7, rr_33_8, rr_39_4, rr_39_5, rr_39_6, rr_39_7, rr_39_8, rr_45_4, rr_45_5, rr_45_6, rr_45_7, rr_45_8, rr_51_4, rr_51_5, rr_51_6, rr_51_7, rr_51_8, rr_57_4, rr_57_5, rr_57_6, rr_57_7, rr_57_8, rr_63_2, rr_63_3, rr_63_4, rr_63_5, rr_68_0, rr_70_1, rr_70_2, rr_74_4, rr_74_5, rr_74_6, rr_74_7, rr_74_8, rr_80_4, rr_80_5, rr_80_6, rr_80_7, rr_80_8, rr_86_2, rr_88_2, rr_90_2, rr_92_0, rr_92_1, rr_92_5, rr_92_6, rr_92_8, rr_92_9, rr_92_12, rr_92_15, rr_92_16, rr_92_17, hc, ↓reduceIte, nI_add]
    refine ih (i + 1) _ (by omega) (fun j hj => ?_) (fun σ2 a b => hk σ2 a (fun k h => by rw [b k h, u2_f h]))
    by_cases e : j = i
    · rw [e, u2_s]
    · rw [u2_i e]; exact hr j (by omega)
theorem m_draft (E : ip_E) {σ : ip_G} {n : Nat} {T : Nat → Nat} {D : Nat → Nat} {r c : Nat} {X : Nat → Nat} {np : Nat} {P : Nat → Nat → Nat} {kb : Nat → Bool} {K : Nat → Nat → Nat} {Z : Nat → Nat → Nat} (hT : MT σ n T) (hMW : MW σ) (hM : MD σ 0 D) (hX : MM σ r c X) (hW : WD D) (hWX : WX r c X) (hP : MP σ np P) (hK : MK σ kb K) (hS : MS σ Z) (κ : Option Value → ip_G → Prop) (hk : ∀ σ2, MT σ2 (if drB n T D r c = true then 0 else n) T → MQs σ2 (drL n T D r c X) → MP σ2 (if drB n T D r c = true then 0 else np) P → MK σ2 (if drB n T D r c = true then kb0 else kb) K → MS σ2 (if drB n T D r c = true then zz0 else Z) → (∀ k, k < 92 → σ2 k = σ k) → MW σ2 → κ (some (.int (drR n T D r c))) σ2) : wp E 139 0 [.ref 92, .retAddr 0] [] σ κ := by
  simp (disch := first | assumption | exact bz0 | exact bz1 | exact bzi | omega | decide +kernel) only [I_139_0, I_139_1, I_139_2, I_139_5, I_139_8, I_139_10, I_139_11, I_139_12, I_139_13, I_139_16, I_139_17, I_139_18, I_139_19, I_139_22, I_139_23, I_139_24, I_139_27, I_139_28, I_139_31, I_139_32, I_139_33, I_139_34, I_139_35, I_139_38, I_139_39, I_139_40, I_139_41, I_139_42, I_139_43, I_139_44, I_139_45, I_139_48, I_139_49, I_139_52, I_139_53, I_139_54, I_139_55, I_139_58, I_139_61, I_139_62, I_139_65]
  refine m_reads E false hT hMW hM hX hW hWX _ (fun b p2 L σ2 e1 e2 e3 e4 e5 => ?_)
  have hdb : drB n T D r c = b := by unfold drB; rw [e1]
  have hdr : drR n T D r c = if b = true then nI L.length else -4 := by unfold drR; rw [e1]
  have hdl : drL n T D r c X = if b = true then doL L (D, r, c, X) else (D, r, c, X) := by unfold drL; rw [hdb, e1]
  rw [hdb, hdr, hdl] at hk
  have W2 : MW σ2 := MW_fr hMW (e5.1 101 (by omega) (by omega) (by omega) (by omega) (by omega))
  cases b with
  | false =>
    simp only [Bool.false_eq_true, ↓reduceIte] at hk
    simp (disch := first | assumption | exact bz0 | exact bz1 | exact bzi | omega | decide +kernel) only [I_139_0, I_139_1, I_139_2, I_139_5, I_139_8, I_139_10, I_139_11, I_139_12, I_139_13, I_139_16, I_139_17, I_139_18, I_139_19, I_139_22, I_139_23, I_139_24, I_139_27, I_139_28, I_139_31, I_139_32, I_139_33, I_139_34, I_139_35, I_139_38, I_139_39, I_139_40, I_139_41, I_139_42, I_139_43, I_139_44, I_139_45, I_139_48, I_139_49, I_139_52, I_139_53, I_139_54, I_139_55, I_139_58, I_139_61, I_139_62, I_139_65, Option.toList_some, List.cons_append, List.nil_append, nb0, not_true_eq_false, ↓reduceIte]
    refine hk σ2 e2.1 (e4 rfl) (MP_fr hP (e5.2.1 4 (by omega) (by omega) (by omega) (by omega) (by omega) (by omega)) (fun j h1 _ => e5.2.2 j h1)) (fun k hk2 => ?_) (fun t ht => ?_) (fun k h => e5.1 k (by omega) (by omega) (by omega) (by omega) (by omega)) W2
    · rw [e5.1 95 (by omega) (by omega) (by omega) (by omega) (by omega)]
      exact ⟨(hK k hk2).1, fun z => ⟨MD_fr ((hK k hk2).2 z).2 ((hK k hk2).2 z).1 (fun j h1 _ => e5.2.2 j (by omega)), ((hK k hk2).2 z).2⟩⟩
    · have := hS t ht
      unfold MS1 at this ⊢
      rw [e5.1 97 (by omega) (by omega) (by omega) (by omega) (by omega), e5.1 98 (by omega) (by omega) (by omega) (by omega) (by omega)]
      exact this
  | true =>
    simp only [↓reduceIte] at hk
    simp (disch := first | assumption | exact bz0 | exact bz1 | exact bzi | omega | decide +kernel) only [I_139_0, I_139_1, I_139_2, I_139_5, I_139_8, I_139_10, I_139_11, I_139_12, I_139_13, I_139_16, I_139_17, I_139_18, I_139_19, I_139_22, I_139_23, I_139_24, I_139_27, I_139_28, I_139_31, I_139_32, I_139_33, I_139_34, I_139_35, I_139_38, I_139_39, I_139_40, I_139_41, I_139_42, I_139_43, I_139_44, I_139_45, I_139_48, I_139_49, I_139_52, I_139_53, I_139_54, I_139_55, I_139_58, I_139_61, I_139_62, I_139_65, Option.toList_some, List.cons_append, List.nil_append, nb1, not_false_eq_true, ↓reduceIte]
    refine m_reads E true e2.1 W2 (e4 rfl).1 (e4 rfl).2 hW hWX _ (fun b p3 L2 σ3 f1 f2 f3 _ f5 => ?_)
    rw [e1] at f1
    cases f1
    obtain ⟨c3, q3⟩ := f3 rfl
    rw [if_pos rfl] at q3
    have f53 := frZ_t e5 f5
    simp (disch := first | assumption | exact bz0 | exact bz1 | exact bzi | omega | decide +kernel) only [I_139_0, I_139_1, I_139_2, I_139_5, I_139_8, I_139_10, I_139_11, I_139_12, I_139_13, I_139_16, I_139_17, I_139_18, I_139_19, I_139_22, I_139_23, I_139_24, I_139_27, I_139_28, I_139_31, I_139_32, I_139_33, I_139_34, I_139_35, I_139_38, I_139_39, I_139_40, I_139_41, I_139_42, I_139_44, I_139_45, I_139_48, I_139_49, I_139_52, I_139_53, I_139_54, I_139_55, I_139_58, I_139_61, I_139_62, I_139_65, rr_0_0, rr_0_1, rr_0_2, rr_0_3, rr_0_4, rr_0_5, rr_0_6, rr_0_7, rr_0_8, rr_1_0, rr_1_1, rr_1_2, rr_1_3, rr_2_4, rr_2_5, rr_2_6, rr_2_7, rr_2_8, rr_13_0, rr_15_4, rr_15_5, rr_15_6, rr_15_7, rr_15_8, rr_21_4, rr_21_5, rr_21_6, rr_21_7, rr_21_8, rr_27_4, rr_27_5, rr_27_6, rr_27_7, rr_27_8, rr_33_4, rr_33_5, rr_33_6, rr_33_7, rr_33_8, rr_39_4, rr_39_5, rr_39_6, rr_39_7, rr_39_8, rr_45_4, rr_45_5, rr_45_6, rr_45_7, rr_45_8, rr_51_4, rr_51_5, rr_51_6, rr_51_7, rr_51_8, rr_57_4, rr_57_5, rr_57_6, rr_57_7, rr_57_8, rr_63_2, rr_63_3, rr_63_4, rr_63_5, rr_68_0, rr_70_1, rr_70_2, rr_74_4, rr_74_5, rr_74_6, rr_74_7, rr_74_8, rr_80_4, rr_80_5, rr_80_6, rr_80_7, rr_80_8, rr_86_2, rr_88_2, rr_90_2, rr_92_0, rr_92_1, rr_92_5, rr_92_6, rr_92_8, rr_92_9, rr_92_12, rr_92_15, rr_92_16, rr_92_17, Option.toList_some, List.cons_append, List.nil_append]
    refine L_mdraft E κ 3 0 _ (by omega) (fun j hj => absurd hj (by omega)) (fun σ5 h1 h2 => ?_)
    have go : ∀ k, k ≠ 92 → k ≠ 95 → k ≠ 97 → σ5 k = σ3 k := fun k a b c => by rw [h2 k c, u2_f b, u2_f b, u2_f a, u2_f a]
    have go92 : ∀ j, j ≠ 4 → j ≠ 7 → σ5 92 j = σ3 92 j := fun j a b => by rw [h2 92 (by omega), u2_f (by omega), u2_f (by omega), u2_i a, u2_i b]
    have y13 : σ5 92 13 = nI L.length := by rw [go92 13 (by omega) (by omega)]; exact c3
    have gD : WD (doL L (D, r, c, X)).1 := by
      have hv := rd_v (n := n) (T := T) 24 0 (rz D r c) (D, r, c, X) rz_S ⟨hW, hWX⟩ (by rw [e1])
      rw [e1] at hv
      exact (doL_g _ _ ⟨hW, hWX⟩ hv).1
    simp (disch := first | assumption | exact bz0 | exact bz1 | exact bzi | omega | decide +kernel) only [I_139_0, I_139_1, I_139_2, I_139_5, I_139_8, I_139_10, I_139_11, I_139_12, I_139_13, I_139_16, I_139_17, I_139_18, I_139_19, I_139_22, I_139_23, I_139_24, I_139_27, I_139_28, I_139_31, I_139_32, I_139_33, I_139_34, I_139_35, I_139_38, I_139_39, I_139_40, I_139_41, I_139_42, I_139_43, I_139_44, I_139_45, I_139_48, I_139_49, I_139_52, I_139_53, I_139_54, I_139_55, I_139_58, I_139_61, I_139_62, I_139_65, rr_0_0, rr_0_1, rr_0_2, rr_0_3, rr_0_4, rr_0_5, rr_0_6, rr_0_7, rr_0_8, rr_1_0, rr_1_1, rr_1_2, rr_1_3, rr_2_4, rr_2_5, rr_2_6, rr_2_7, rr_2_8, rr_13_0, rr_15_4, rr_15_5, rr_15_6, rr_15_7, rr_15_8, rr_21_4, rr_21_5, rr_21_6, rr_21_7, rr_21_8, rr_27_4, rr_27_5, rr_27_6, rr_27_7, rr_27_8, rr_33_4, rr_33_5, rr_33_6, rr_33_7, rr_33_8, rr_39_4, rr_39_5, rr_39_6, rr_39_7, rr_39_8, rr_45_4, rr_45_5, rr_45_6, rr_45_7, rr_45_8, rr_51_4, rr_51_5, rr_51_6, rr_51_7, rr_51_8, rr_57_4, rr_57_5, rr_57_6, rr_57_7, rr_57_8, rr_63_2, rr_63_3, rr_63_4, rr_63_5, rr_68_0, rr_70_1, rr_70_2, rr_74_4, rr_74_5, rr_74_6, rr_74_7, rr_74_8, rr_80_4, rr_80_5, rr_80_6, rr_80_7, rr_80_8, rr_86_2, rr_88_2, rr_90_2, rr_92_0, rr_92_1, rr_92_5, rr_92_6, rr_92_8, rr_92_9, rr_92_12, rr_92_15, rr_92_16, rr_92_17, y13]
    refine hk σ5 ⟨?_, Nat.zero_le _, fun i hi => absurd hi (Nat.not_lt_zero _)⟩ (MQs_fr gD q3 (fun j _ => by rw [go 93 (by omega) (by omega) (by omega)]) (go92 2 (by omega) (by omega)) (go92 3 (by omega) (by omega)) (go 94 (by omega) (by omega) (by omega))) ⟨Nat.zero_le _, ?_, fun i hi => absurd hi (Nat.not_lt_zero _), fun i hi => absurd hi (Nat.not_lt_zero _)⟩ (fun k hk2 => ⟨?_, fun z => by cases z⟩) (fun t ht => ⟨?_, fun i hi => absurd hi (Nat.not_lt_zero _)⟩) (fun k hk2 => ?_) (MW_fr W2 ?_)
    · rw [h2 92 (by omega), u2_f (by omega), u2_f (by omega), u2_i (by omega), u2_s]
    · rw [h2 92 (by omega), u2_f (by omega), u2_f (by omega), u2_s]
    · have : k = 0 ∨ k = 1 := by omega
      rw [h2 95 (by omega)]
      rcases this with rfl | rfl
      · rw [u2_i (by omega), u2_s]; rfl
      · rw [u2_s]; rfl
    · exact h1 t ht
    · rw [go k (by omega) (by omega) (by omega), f53.1 k (by omega) (by omega) (by omega) (by omega) (by omega)]
    · rw [go 101 (by omega) (by omega) (by omega), f5.1 101 (by omega) (by omega) (by omega) (by omega) (by omega)]
