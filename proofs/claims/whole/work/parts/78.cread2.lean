/-! the class: a text read whole, carried out -/
theorem L_read (E : ip_E) (hE : ip_fok2 E.2.2) {n : Nat} {T : Nat → Nat} (κ : Option Value → ip_G → Prop) : ∀ (k i p : Nat) (R : Nat → Nat) (σ : ip_G), i + k = 24 → 1 ≤ k → WR R → CT σ n T → σ 68 3 = nI p → p ≤ n → RC σ R → σ 70 0 = nI i → (∀ b p2 L σ2, rd n T k p R = (b, p2, L) → CT σ2 n T → (b = true → stL σ2 i L ∧ σ2 70 0 = nI (i + L.length)) → frR σ σ2 i → κ (some (.int (if b = true then -1 else nI (ts n T p2)))) σ2) → wp E 12 48 [.ref 70, .ref 68, .ref 2, .ref 63, .int (nI i)] [] σ κ := by
  intro k
  induction k with
  | zero => intro i p R σ _ h1; omega
  | succ k ih =>
    intro i p R σ hik h1 hW hT hp hpn hR h0 hk
    have hc : ¬ nI 24 ≤ nI i := nI_ge (by omega) (by omega)
    have hn : n ≤ 200 := hT.2.1
    rw [I_12_48]
    simp (disch := first | assumption | exact bz0 | exact bz1 | exact bzi | omega | decide +kernel) only [I_12_0, I_12_1, I_12_2, I_12_5, I_12_6, I_12_9, I_12_10, I_12_13, I_12_14, I_12_17, I_12_20, I_12_21, I_12_22, I_12_25, I_12_28, I_12_29, I_12_30, I_12_33, I_12_36, I_12_37, I_12_38, I_12_41, I_12_42, I_12_45, I_12_46, I_12_50, I_12_52, I_12_55, I_12_56, I_12_57, I_12_60, I_12_63, I_12_64, I_12_67, I_12_68, I_12_69, I_12_70, I_12_73, I_12_74, I_12_75, I_12_78, I_12_79, I_12_82, I_12_83, I_12_86, I_12_89, I_12_90, I_12_91, I_12_92, I_12_95, I_12_98, I_12_99, I_12_102, I_12_103, I_12_106, I_12_109, I_12_110, I_12_113, hc, ↓reduceIte]
    refine c_readClause E hE hW (by omega) hT hp hpn hR h0 _ (fun b p2 N2 σ2 e1 e2 e3 e4 e5 => ?_)
    cases b with
    | false =>
      have hr : rd n T (k + 1) p R = (false, p2, []) := by
        unfold rd
        rw [e1]
      have z : σ2 68 2 = nI (ts n T p2) := e2.2.2
      simp (disch := first | assumption | exact bz0 | exact bz1 | exact bzi | omega | decide +kernel) only [I_12_0, I_12_1, I_12_2, I_12_5, I_12_6, I_12_9, I_12_10, I_12_13, I_12_14, I_12_17, I_12_20, I_12_21, I_12_22, I_12_25, I_12_28, I_12_29, I_12_30, I_12_33, I_12_36, I_12_37, I_12_38, I_12_41, I_12_42, I_12_45, I_12_46, I_12_50, I_12_52, I_12_55, I_12_56, I_12_57, I_12_60, I_12_63, I_12_64, I_12_67, I_12_68, I_12_69, I_12_70, I_12_73, I_12_74, I_12_75, I_12_78, I_12_79, I_12_82, I_12_83, I_12_86, I_12_89, I_12_90, I_12_91, I_12_92, I_12_95, I_12_98, I_12_99, I_12_102, I_12_103, I_12_106, I_12_109, I_12_110, I_12_113, Option.toList_some, List.cons_append, List.nil_append, nb0, not_true_eq_false, ↓reduceIte, z]
      exact hk false p2 [] σ2 hr e2.1 (fun z => by cases z) e5
    | true =>
      have z : σ2 68 3 = nI p2 := e2.2.2
      have e3' := e3 rfl
      simp (disch := first | assumption | exact bz0 | exact bz1 | exact bzi | omega | decide +kernel) only [I_12_0, I_12_1, I_12_2, I_12_5, I_12_6, I_12_9, I_12_10, I_12_13, I_12_14, I_12_17, I_12_20, I_12_21, I_12_22, I_12_25, I_12_28, I_12_29, I_12_30, I_12_33, I_12_36, I_12_37, I_12_38, I_12_41, I_12_42, I_12_45, I_12_46, I_12_50, I_12_52, I_12_55, I_12_56, I_12_57, I_12_60, I_12_63, I_12_64, I_12_67, I_12_68, I_12_69, I_12_70, I_12_73, I_12_74, I_12_75, I_12_78, I_12_79, I_12_82, I_12_83, I_12_86, I_12_89, I_12_90, I_12_91, I_12_92, I_12_95, I_12_98, I_12_99, I_12_102, I_12_103, I_12_106, I_12_109, I_12_110, I_12_113, Option.toList_some, List.cons_append, List.nil_append, nb1, not_false_eq_true, ↓reduceIte, e4, nI_add]
      have ct3 : CT (ip_u2 σ2 70 0 (nI (i + 1))) n T := CT_fr e2.1 (by rw [u2_f (by omega)]) (by rw [u2_f (by omega)])
      refine c_goOn E ct3 (by rw [u2_f (by omega)]; exact z) e2.2.1 _ (fun σ4 g1 g2 => ?_)
      have g1' : TX σ4 n T (ts n T p2) (te n T p2) := g1
      have g70 : σ4 70 = (ip_u2 σ2 70 0 (nI (i + 1))) 70 := g2 70 (by omega)
      have fr4 : frR σ2 σ4 (i + 1) := ⟨fun k h1 h2 _ _ => by rw [g2 k h1, u2_f h2], fun a _ => by rw [g2 71 (by omega), u2_f (by omega)], fun a _ => by rw [g2 72 (by omega), u2_f (by omega)]⟩
      have fr4' := frR_t e5 (frR_m fr4 (Nat.le_succ i))
      have s4 := sto_fr e3'.1 fr4
      have y0 : σ4 70 0 = nI (i + 1) := by rw [g70, u2_s]
      have rc4 : RC σ4 (nxR R (clW n T p) N2) := RC_fr e3'.2 (fun j _ _ => by rw [g70, u2_i (by omega)])
      by_cases hs : ts n T p2 < n
      · have htk : tk n T (ts n T p2) = kd (T (ts n T p2)) := if_pos hs
        have hkv := kd_v (T (ts n T p2))
        have hz : ¬ nI (tk n T (ts n T p2)) = 0 := fun z => by
          have := (nI_eq (by rw [htk]; omega) (by omega)).mp (z.trans ip_nI0.symm)
          omega
        simp (disch := first | assumption | exact bz0 | exact bz1 | exact bzi | omega | decide +kernel) only [I_12_0, I_12_1, I_12_2, I_12_5, I_12_6, I_12_9, I_12_10, I_12_13, I_12_14, I_12_17, I_12_20, I_12_21, I_12_22, I_12_25, I_12_28, I_12_29, I_12_30, I_12_33, I_12_36, I_12_37, I_12_38, I_12_41, I_12_42, I_12_45, I_12_46, I_12_50, I_12_52, I_12_55, I_12_56, I_12_57, I_12_60, I_12_63, I_12_64, I_12_67, I_12_68, I_12_69, I_12_70, I_12_73, I_12_74, I_12_75, I_12_78, I_12_79, I_12_82, I_12_83, I_12_86, I_12_89, I_12_90, I_12_91, I_12_92, I_12_95, I_12_98, I_12_99, I_12_102, I_12_103, I_12_106, I_12_109, I_12_110, I_12_113, g1'.2.2.2, hz, not_false_eq_true, ↓reduceIte, c_isSemicolon E g1', Option.toList_some, List.cons_append, List.nil_append, Option.toList_none]
        by_cases h59 : T (ts n T p2) = 59
        · have hsc : scB n T (ts n T p2) = true := decide_eq_true ⟨hs, h59⟩
          simp (disch := first | assumption | exact bz0 | exact bz1 | exact bzi | omega | decide +kernel) only [I_12_0, I_12_1, I_12_2, I_12_5, I_12_6, I_12_9, I_12_10, I_12_13, I_12_14, I_12_17, I_12_20, I_12_21, I_12_22, I_12_25, I_12_28, I_12_29, I_12_30, I_12_33, I_12_36, I_12_37, I_12_38, I_12_41, I_12_42, I_12_45, I_12_46, I_12_50, I_12_52, I_12_55, I_12_56, I_12_57, I_12_60, I_12_63, I_12_64, I_12_67, I_12_68, I_12_69, I_12_70, I_12_73, I_12_74, I_12_75, I_12_78, I_12_79, I_12_82, I_12_83, I_12_86, I_12_89, I_12_90, I_12_91, I_12_92, I_12_95, I_12_98, I_12_99, I_12_102, I_12_103, I_12_106, I_12_109, I_12_110, I_12_113, hsc, nb1, not_false_eq_true, ↓reduceIte, nI_add]
          by_cases hk0 : k = 0
          · subst hk0
            have hc2 : nI 24 ≤ nI (i + 1) := nI_le (by omega) (by omega)
            have hr : rd n T (0 + 1) p R = (false, p2, []) := by
              unfold rd
              rw [e1]
              simp only
              rw [if_pos hs, if_neg (by rintro ⟨-, z⟩; exact z rfl)]
            simp (disch := first | assumption | exact bz0 | exact bz1 | exact bzi | omega | decide +kernel) only [I_12_0, I_12_1, I_12_2, I_12_5, I_12_6, I_12_9, I_12_10, I_12_13, I_12_14, I_12_17, I_12_20, I_12_21, I_12_22, I_12_25, I_12_28, I_12_29, I_12_30, I_12_33, I_12_36, I_12_37, I_12_38, I_12_41, I_12_42, I_12_45, I_12_46, I_12_48, I_12_50, I_12_52, I_12_55, I_12_56, I_12_57, I_12_60, I_12_63, I_12_64, I_12_67, I_12_68, I_12_69, I_12_70, I_12_73, I_12_74, I_12_75, I_12_78, I_12_79, I_12_82, I_12_83, I_12_86, I_12_89, I_12_90, I_12_91, I_12_92, I_12_95, I_12_98, I_12_99, I_12_102, I_12_103, I_12_106, I_12_109, I_12_110, I_12_113, hc2, ↓reduceIte, g1'.2.1]
            exact hk false p2 [] σ4 hr g1.1 (fun z => by cases z) fr4'
          · refine ih (i + 1) (te n T p2) _ σ4 (by omega) (by omega) (nxR_W hW e1) g1.1 g1.2.2.1 (te_le e2.2.1).2.1 rc4 y0 (fun b p3 L σ5 f1 f2 f3 f4 => ?_)
            have hr : rd n T (k + 1) p R = (b, p3, (clW n T p, N2) :: L) := by
              unfold rd
              rw [e1]
              simp only
              rw [if_pos hs, if_pos ⟨h59, hk0⟩, f1]
            refine hk b p3 _ σ5 hr f2 (fun hb => ⟨⟨sto_fr s4 f4, (f3 hb).1⟩, ?_⟩) (frR_t fr4' (frR_m f4 (Nat.le_succ i)))
            rw [(f3 hb).2, List.length_cons, show i + 1 + L.length = i + (L.length + 1) by omega]
        · have hsc : scB n T (ts n T p2) = false := decide_eq_false (fun z => h59 z.2)
          have hr : rd n T (k + 1) p R = (false, p2, []) := by
            unfold rd
            rw [e1]
            simp only
            rw [if_pos hs, if_neg (by rintro ⟨z, -⟩; exact h59 z)]
          simp (disch := first | assumption | exact bz0 | exact bz1 | exact bzi | omega | decide +kernel) only [I_12_0, I_12_1, I_12_2, I_12_5, I_12_6, I_12_9, I_12_10, I_12_13, I_12_14, I_12_17, I_12_20, I_12_21, I_12_22, I_12_25, I_12_28, I_12_29, I_12_30, I_12_33, I_12_36, I_12_37, I_12_38, I_12_41, I_12_42, I_12_45, I_12_46, I_12_50, I_12_52, I_12_55, I_12_56, I_12_57, I_12_60, I_12_63, I_12_64, I_12_67, I_12_68, I_12_69, I_12_70, I_12_73, I_12_74, I_12_75, I_12_78, I_12_79, I_12_82, I_12_83, I_12_86, I_12_89, I_12_90, I_12_91, I_12_92, I_12_95, I_12_98, I_12_99, I_12_102, I_12_103, I_12_106, I_12_109, I_12_110, I_12_113, hsc, nb0, not_true_eq_false, ↓reduceIte, g1'.2.1]
          exact hk false p2 [] σ4 hr g1.1 (fun z => by cases z) fr4'
      · have htk : tk n T (ts n T p2) = 0 := if_neg hs
        have y4 : σ4 68 4 = nI 0 := by rw [g1'.2.2.2, htk]
        have hr : rd n T (k + 1) p R = (true, p2, [(clW n T p, N2)]) := by
          unfold rd
          rw [e1]
          simp only
          rw [if_neg hs]
        simp (disch := first | assumption | exact bz0 | exact bz1 | exact bzi | omega | decide +kernel) only [I_12_0, I_12_1, I_12_2, I_12_5, I_12_6, I_12_9, I_12_10, I_12_13, I_12_14, I_12_17, I_12_20, I_12_21, I_12_22, I_12_25, I_12_28, I_12_29, I_12_30, I_12_33, I_12_36, I_12_37, I_12_38, I_12_41, I_12_42, I_12_45, I_12_46, I_12_50, I_12_52, I_12_55, I_12_56, I_12_57, I_12_60, I_12_63, I_12_64, I_12_67, I_12_68, I_12_69, I_12_70, I_12_73, I_12_74, I_12_75, I_12_78, I_12_79, I_12_82, I_12_83, I_12_86, I_12_89, I_12_90, I_12_91, I_12_92, I_12_95, I_12_98, I_12_99, I_12_102, I_12_103, I_12_106, I_12_109, I_12_110, I_12_113, y4, ip_nI0, not_true_eq_false, ↓reduceIte, Option.toList_some, List.cons_append, List.nil_append, Option.toList_none]
        exact hk true p2 _ σ4 hr g1.1 (fun _ => ⟨⟨s4, trivial⟩, y0⟩) fr4'
def rz (D : Nat → Nat) (r c : Nat) : Nat → Nat := fun j => if j < 4 then D j else if j = 4 then r else c
theorem rz_S {D : Nat → Nat} {r c : Nat} {X : Nat → Nat} : rS (rz D r c) (D, r, c, X) := ⟨fun j hj => if_pos hj, rfl, fun _ => rfl⟩
theorem rz_W {D : Nat → Nat} {r c : Nat} {X : Nat → Nat} (hW : WD D) (hX : WX r c X) : WR (rz D r c) := rS_W (S := (D, r, c, X)) rz_S ⟨hW, hX⟩ hX.2.1
theorem c_read (E : ip_E) (hE : ip_fok2 E.2.2) {σ : ip_G} {n : Nat} {T : Nat → Nat} {D : Nat → Nat} {r c : Nat} {X : Nat → Nat} (hT : CT σ n T) (hC : CD σ 2 D) (hX : CM σ r c X) (hW : WD D) (hWX : WX r c X) (κ : Option Value → ip_G → Prop) (hk : ∀ b p2 L σ2, rd n T 24 0 (rz D r c) = (b, p2, L) → CT σ2 n T → (b = true → stL σ2 0 L ∧ σ2 70 0 = nI L.length) → (∀ k, k ≠ 68 → k ≠ 70 → k ≠ 71 → k ≠ 72 → σ2 k = σ k) → κ (some (.int (if b = true then -1 else nI (ts n T p2)))) σ2) : wp E 12 0 [.ref 70, .ref 68, .ref 2, .ref 63, .retAddr 0] [] σ κ := by
  have d0 := hC.1 0 (by omega)
  have d1 := hC.1 1 (by omega)
  have d2 := hC.1 2 (by omega)
  have d3 := hC.1 3 (by omega)
  have x0 := hX.1
  have x1 := hX.2.1
  simp (disch := first | assumption | exact bz0 | exact bz1 | exact bzi | omega | decide +kernel) only [I_12_0, I_12_1, I_12_2, I_12_5, I_12_6, I_12_9, I_12_10, I_12_13, I_12_14, I_12_17, I_12_20, I_12_21, I_12_22, I_12_25, I_12_28, I_12_29, I_12_30, I_12_33, I_12_36, I_12_37, I_12_38, I_12_41, I_12_42, I_12_45, I_12_46, I_12_50, I_12_52, I_12_55, I_12_56, I_12_57, I_12_60, I_12_63, I_12_64, I_12_67, I_12_68, I_12_69, I_12_70, I_12_73, I_12_74, I_12_75, I_12_78, I_12_79, I_12_82, I_12_83, I_12_86, I_12_89, I_12_90, I_12_91, I_12_92, I_12_95, I_12_98, I_12_99, I_12_102, I_12_103, I_12_106, I_12_109, I_12_110, I_12_113, d0, d1, d2, d3, c_setSizes, Option.toList_none, Option.toList_some, List.cons_append, List.nil_append, u2_k, x0, x1, I_14_0, I_14_1, I_14_2, I_14_5]
  refine L_read E hE (n := n) (T := T) κ 24 0 0 (rz D r c) _ (by omega) (by omega) (rz_W hW hWX) (CT_fr hT (by simp [ip_u2]) (by funext a; simp [ip_u2])) (by simp [ip_u2]) (Nat.zero_le _) ⟨fun j hj => ?_, by simp [ip_u2, rz], fun _ => by simp [ip_u2, rz]⟩ (by simp [ip_u2]) (fun b p2 L σ2 e1 e2 e3 e4 => ?_)
  · have : j = 0 ∨ j = 1 ∨ j = 2 ∨ j = 3 := by omega
    rcases this with rfl | rfl | rfl | rfl <;> simp [ip_u2, rz]
  · refine hk b p2 L σ2 e1 e2 (fun hb => ⟨(e3 hb).1, by rw [(e3 hb).2, Nat.zero_add]⟩) (fun k h1 h2 h3 h4 => ?_)
    rw [e4.1 k h1 h2 h3 h4]
    funext a
    simp [ip_u2, h1, h2]
def CQ (σ : ip_G) (S : dSt) : Prop := CD σ 2 S.1 ∧ CM σ S.2.1 S.2.2.1 S.2.2.2
theorem CM_set {σ : ip_G} {r c : Nat} {X : Nat → Nat} (h : CM σ r c X) (w d : Nat) : CM (ip_u2 (ip_u2 (ip_u2 σ 64 r (nI w)) 63 1 (nI d)) 63 0 (nI (r + 1))) (r + 1) d (setD X r w) := by
  refine ⟨u2_s _ _ _ _, by rw [u2_i (by omega), u2_s], fun i hi => ?_⟩
  rw [u2_f (by omega), u2_f (by omega)]
  by_cases e : i = r
  · rw [e, u2_s, setD_s]
  · rw [u2_i e, setD_n e]; exact h.2.2 i (by omega)
theorem c_carryOutClause (E : ip_E) {σ : ip_G} {S : dSt} {i : Nat} {q : Nat × (Nat → Nat)} (hi : i < 24) (hs : sto σ i q) (hQ : CQ σ S) (hg : gS S) (hv : vC S.1 S.2.1 q) (κ : Option Value → ip_G → Prop) (hk : ∀ σ2, CQ σ2 (doS q S) → (∀ k, (k < 2 ∨ 8 ≤ k) → k ≠ 63 → k ≠ 64 → σ2 k = σ k) → κ none σ2) : wp E 41 0 [.ref 70, .int (nI i), .ref 2, .ref 63, .retAddr 0, .retAddr 0] [] σ κ := by
  obtain ⟨D, r, c, X⟩ := S
  obtain ⟨w, N⟩ := q
  obtain ⟨s1, s2⟩ := hs
  obtain ⟨hC, hM⟩ := hQ
  have hW := hg.1
  have hX := hg.2
  have wd := hW.1
  dsimp only at *
  have tup : ∀ {pl b a v : Nat}, ((pl = 3 ∧ b = 4 ∧ a < 12) ∨ (pl = 4 ∧ b = 16 ∧ a < 6) ∨ (pl = 5 ∧ b = 22 ∧ a < 12) ∨ (pl = 6 ∧ b = 34 ∧ a < 12) ∨ (pl = 7 ∧ b = 46 ∧ a < 12)) → CQ (ip_u2 σ pl a (nI v)) (setD D (b + a) v, r, c, X) := fun h => ⟨CD_set h hC (by omega), CM_fr hM (by rw [u2_f (by omega)]) (by rw [u2_f (by omega)])⟩
  unfold vC at hv
  dsimp only at hv
  rcases hv with h | h | h | h | h | h | h | h
  · obtain ⟨rfl, h⟩ := h
    have v0 := s2 0 (by decide)
    have v1 := s2 1 (by decide)
    have v2 := s2 2 (by decide)
    have v3 := s2 3 (by decide)
    simp (disch := first | assumption | exact bz0 | exact bz1 | exact bzi | omega | decide +kernel) only [I_41_0, I_41_1, I_41_2, I_41_3, I_41_6, I_41_8, I_41_9, I_41_10, I_41_11, I_41_14, I_41_16, I_41_17, I_41_20, I_41_21, I_41_22_c0, I_41_22_c1, I_41_22_c2, I_41_22_c3, I_41_22_c4, I_41_22_c5, I_41_22_c6, I_41_22_d, I_41_64, I_41_65, I_41_67, I_41_69, I_41_70, I_41_71, I_41_72, I_41_75, I_41_76, I_41_77, I_41_78, I_41_81, I_41_84, I_41_87, I_41_88, I_41_91, I_41_93, I_41_95, I_41_96, I_41_99, I_41_100, I_41_103, I_41_105, I_41_106, I_41_107, I_41_108, I_41_110, I_41_111, I_41_112, I_41_113, I_41_116, I_41_117, I_41_120, I_41_122, I_41_124, I_41_125, I_41_128, I_41_129, I_41_132, I_41_134, I_41_136, I_41_137, I_41_140, I_41_141, I_41_144, I_41_146, I_41_148, I_41_149, I_41_152, I_41_153, I_41_156, I_41_159, I_41_160, I_41_162, I_41_164, I_41_167, rr_0_0, rr_0_1, rr_0_2, rr_0_3, rr_0_4, rr_0_5, rr_0_6, rr_0_7, rr_0_8, rr_1_0, rr_1_1, rr_1_2, rr_1_3, rr_2_4, rr_2_5, rr_2_6, rr_2_7, rr_2_8, rr_13_0, rr_15_4, rr_15_5, rr_15_6, rr_15_7, rr_15_8, rr_21_4, rr_21_5, rr_21_6, rr_21_7, rr_21_8, rr_27_4, rr_27_5, rr_27_6, rr_27_7, rr_27_8, rr_33_4, rr_33_5, rr_33_6, rr_33_7, rr_33_8, rr_39_4, rr_39_5, rr_39_6, rr_39_7, rr_39_8, rr_45_4, rr_45_5, rr_45_6, rr_45_7, rr_45_8, rr_51_4, rr_51_5, rr_51_6, rr_51_7, rr_51_8, rr_57_4, rr_57_5, rr_57_6, rr_57_7, rr_57_8, rr_63_2, rr_63_3, rr_63_4, rr_63_5, rr_68_0, rr_70_1, rr_70_2, rr_74_4, rr_74_5, rr_74_6, rr_74_7, rr_74_8, rr_80_4, rr_80_5, rr_80_6, rr_80_7, rr_80_8, rr_86_2, rr_88_2, rr_90_2, rr_92_0, rr_92_1, rr_92_5, rr_92_6, rr_92_8, rr_92_9, rr_92_12, rr_92_15, rr_92_16, rr_92_17, c_rnumber E hi (show 0 < 4 by omega), c_rnumber E hi (show 1 < 4 by omega), c_rnumber E hi (show 2 < 4 by omega), c_rnumber E hi (show 3 < 4 by omega), Option.toList_some, List.cons_append, List.nil_append, s1, v0, v1, v2, v3]
    refine c_begin E (Or.inl rfl) h _ (fun σ2 g1 g2 => ?_)
    simp (disch := first | assumption | exact bz0 | exact bz1 | exact bzi | omega | decide +kernel) only [I_41_0, I_41_1, I_41_2, I_41_3, I_41_6, I_41_8, I_41_9, I_41_10, I_41_11, I_41_14, I_41_16, I_41_17, I_41_20, I_41_21, I_41_22_c0, I_41_22_c1, I_41_22_c2, I_41_22_c3, I_41_22_c4, I_41_22_c5, I_41_22_c6, I_41_22_d, I_41_64, I_41_65, I_41_67, I_41_69, I_41_70, I_41_71, I_41_72, I_41_75, I_41_76, I_41_77, I_41_78, I_41_81, I_41_84, I_41_87, I_41_88, I_41_91, I_41_93, I_41_95, I_41_96, I_41_99, I_41_100, I_41_103, I_41_105, I_41_106, I_41_107, I_41_108, I_41_110, I_41_111, I_41_112, I_41_113, I_41_116, I_41_117, I_41_120, I_41_122, I_41_124, I_41_125, I_41_128, I_41_129, I_41_132, I_41_134, I_41_136, I_41_137, I_41_140, I_41_141, I_41_144, I_41_146, I_41_148, I_41_149, I_41_152, I_41_153, I_41_156, I_41_159, I_41_160, I_41_162, I_41_164, I_41_167, Option.toList_none, Option.toList_some, List.cons_append, List.nil_append]
    exact hk σ2 ⟨g1, CM_fr hM (g2 63 (by omega)) (g2 64 (by omega))⟩ (fun k h1 h2 h3 => g2 k (by omega))
  · obtain ⟨rfl, h1, h2⟩ := h
    have v0 := s2 0 (by decide)
    have v1 := s2 1 (by decide)
    simp (disch := first | assumption | exact bz0 | exact bz1 | exact bzi | omega | decide +kernel) only [I_41_0, I_41_1, I_41_2, I_41_3, I_41_6, I_41_8, I_41_9, I_41_10, I_41_11, I_41_14, I_41_16, I_41_17, I_41_20, I_41_21, I_41_22_c0, I_41_22_c1, I_41_22_c2, I_41_22_c3, I_41_22_c4, I_41_22_c5, I_41_22_c6, I_41_22_d, I_41_64, I_41_65, I_41_67, I_41_69, I_41_70, I_41_71, I_41_72, I_41_75, I_41_76, I_41_77, I_41_78, I_41_81, I_41_84, I_41_87, I_41_88, I_41_91, I_41_93, I_41_95, I_41_96, I_41_99, I_41_100, I_41_103, I_41_105, I_41_106, I_41_107, I_41_108, I_41_110, I_41_111, I_41_112, I_41_113, I_41_116, I_41_117, I_41_120, I_41_122, I_41_124, I_41_125, I_41_128, I_41_129, I_41_132, I_41_134, I_41_136, I_41_137, I_41_140, I_41_141, I_41_144, I_41_146, I_41_148, I_41_149, I_41_152, I_41_153, I_41_156, I_41_159, I_41_160, I_41_162, I_41_164, I_41_167, rr_0_0, rr_0_1, rr_0_2, rr_0_3, rr_0_4, rr_0_5, rr_0_6, rr_0_7, rr_0_8, rr_1_0, rr_1_1, rr_1_2, rr_1_3, rr_2_4, rr_2_5, rr_2_6, rr_2_7, rr_2_8, rr_13_0, rr_15_4, rr_15_5, rr_15_6, rr_15_7, rr_15_8, rr_21_4, rr_21_5, rr_21_6, rr_21_7, rr_21_8, rr_27_4, rr_27_5, rr_27_6, rr_27_7, rr_27_8, rr_33_4, rr_33_5, rr_33_6, rr_33_7, rr_33_8, rr_39_4, rr_39_5, rr_39_6, rr_39_7, rr_39_8, rr_45_4, rr_45_5, rr_45_6, rr_45_7, rr_45_8, rr_51_4, rr_51_5, rr_51_6, rr_51_7, rr_51_8, rr_57_4, rr_57_5, rr_57_6, rr_57_7, rr_57_8, rr_63_2, rr_63_3, rr_63_4, rr_63_5, rr_68_0, rr_70_1, rr_70_2, rr_74_4, rr_74_5, rr_74_6, rr_74_7, rr_74_8, rr_80_4, rr_80_5, rr_80_6, rr_80_7, rr_80_8, rr_86_2, rr_88_2, rr_90_2, rr_92_0, rr_92_1, rr_92_5, rr_92_6, rr_92_8, rr_92_9, rr_92_12, rr_92_15, rr_92_16, rr_92_17, c_rnumber E hi (show 0 < 4 by omega), c_rnumber E hi (show 1 < 4 by omega), Option.toList_some, List.cons_append, List.nil_append, s1, v0, v1]
    exact hk _ (tup (by omega)) (fun k h1 h2 h3 => by rw [u2_f (by omega)])
  · obtain ⟨rfl, h1, h2⟩ := h
    have v0 := s2 0 (by decide)
    have v1 := s2 1 (by decide)
    have e1 := hC.2.2.1 _ h1
    simp (disch := first | assumption | exact bz0 | exact bz1 | exact bzi | omega | decide +kernel) only [I_41_0, I_41_1, I_41_2, I_41_3, I_41_6, I_41_8, I_41_9, I_41_10, I_41_11, I_41_14, I_41_16, I_41_17, I_41_20, I_41_21, I_41_22_c0, I_41_22_c1, I_41_22_c2, I_41_22_c3, I_41_22_c4, I_41_22_c5, I_41_22_c6, I_41_22_d, I_41_64, I_41_65, I_41_67, I_41_69, I_41_70, I_41_71, I_41_72, I_41_75, I_41_76, I_41_77, I_41_78, I_41_81, I_41_84, I_41_87, I_41_88, I_41_91, I_41_93, I_41_95, I_41_96, I_41_99, I_41_100, I_41_103, I_41_105, I_41_106, I_41_107, I_41_108, I_41_110, I_41_111, I_41_112, I_41_113, I_41_116, I_41_117, I_41_120, I_41_122, I_41_124, I_41_125, I_41_128, I_41_129, I_41_132, I_41_134, I_41_136, I_41_137, I_41_140, I_41_141, I_41_144, I_41_146, I_41_148, I_41_149, I_41_152, I_41_153, I_41_156, I_41_159, I_41_160, I_41_162, I_41_164, I_41_167, rr_0_0, rr_0_1, rr_0_2, rr_0_3, rr_0_4, rr_0_5, rr_0_6, rr_0_7, rr_0_8, rr_1_0, rr_1_1, rr_1_2, rr_1_3, rr_2_4, rr_2_5, rr_2_6, rr_2_7, rr_2_8, rr_13_0, rr_15_4, rr_15_5, rr_15_6, rr_15_7, rr_15_8, rr_21_4, rr_21_5, rr_21_6, rr_21_7, rr_21_8, rr_27_4, rr_27_5, rr_27_6, rr_27_7, rr_27_8, rr_33_4, rr_33_5, rr_33_6, rr_33_7, rr_33_8, rr_39_4, rr_39_5, rr_39_6, rr_39_7, rr_39_8, rr_45_4, rr_45_5, rr_45_6, rr_45_7, rr_45_8, rr_51_4, rr_51_5, rr_51_6, rr_51_7, rr_51_8, rr_57_4, rr_57_5, rr_57_6, rr_57_7, rr_57_8, rr_63_2, rr_63_3, rr_63_4, rr_63_5, rr_68_0, rr_70_1, rr_70_2, rr_74_4, rr_74_5, rr_74_6, rr_74_7, rr_74_8, rr_80_4, rr_80_5, rr_80_6, rr_80_7, rr_80_8, rr_86_2, rr_88_2, rr_90_2, rr_92_0, rr_92_1, rr_92_5, rr_92_6, rr_92_8, rr_92_9, rr_92_12, rr_92_15, rr_92_16, rr_92_17, c_rnumber E hi (show 0 < 4 by omega), c_rnumber E hi (show 1 < 4 by omega), Option.toList_some, List.cons_append, List.nil_append, s1, v0, v1, e1, nI_shl1 (show N 1 < 31 by omega), nx_xor]
    exact hk _ (tup (by omega)) (fun k h1 h2 h3 => by rw [u2_f (by omega)])
  · obtain ⟨rfl, h1, h2⟩ := h
    have v0 := s2 0 (by decide)
    have v1 := s2 1 (by decide)
    simp (disch := first | assumption | exact bz0 | exact bz1 | exact bzi | omega | decide +kernel) only [I_41_0, I_41_1, I_41_2, I_41_3, I_41_6, I_41_8, I_41_9, I_41_10, I_41_11, I_41_14, I_41_16, I_41_17, I_41_20, I_41_21, I_41_22_c0, I_41_22_c1, I_41_22_c2, I_41_22_c3, I_41_22_c4, I_41_22_c5, I_41_22_c6, I_41_22_d, I_41_64, I_41_65, I_41_67, I_41_69, I_41_70, I_41_71, I_41_72, I_41_75, I_41_76, I_41_77, I_41_78, I_41_81, I_41_84, I_41_87, I_41_88, I_41_91, I_41_93, I_41_95, I_41_96, I_41_99, I_41_100, I_41_103, I_41_105, I_41_106, I_41_107, I_41_108, I_41_110, I_41_111, I_41_112, I_41_113, I_41_116, I_41_117, I_41_120, I_41_122, I_41_124, I_41_125, I_41_128, I_41_129, I_41_132, I_41_134, I_41_136, I_41_137, I_41_140, I_41_141, I_41_144, I_41_146, I_41_148, I_41_149, I_41_152, I_41_153, I_41_156, I_41_159, I_41_160, I_41_162, I_41_164, I_41_167, rr_0_0, rr_0_1, rr_0_2, rr_0_3, rr_0_4, rr_0_5, rr_0_6, rr_0_7, rr_0_8, rr_1_0, rr_1_1, rr_1_2, rr_1_3, rr_2_4, rr_2_5, rr_2_6, rr_2_7, rr_2_8, rr_13_0, rr_15_4, rr_15_5, rr_15_6, rr_15_7, rr_15_8, rr_21_4, rr_21_5, rr_21_6, rr_21_7, rr_21_8, rr_27_4, rr_27_5, rr_27_6, rr_27_7, rr_27_8, rr_33_4, rr_33_5, rr_33_6, rr_33_7, rr_33_8, rr_39_4, rr_39_5, rr_39_6, rr_39_7, rr_39_8, rr_45_4, rr_45_5, rr_45_6, rr_45_7, rr_45_8, rr_51_4, rr_51_5, rr_51_6, rr_51_7, rr_51_8, rr_57_4, rr_57_5, rr_57_6, rr_57_7, rr_57_8, rr_63_2, rr_63_3, rr_63_4, rr_63_5, rr_68_0, rr_70_1, rr_70_2, rr_74_4, rr_74_5, rr_74_6, rr_74_7, rr_74_8, rr_80_4, rr_80_5, rr_80_6, rr_80_7, rr_80_8, rr_86_2, rr_88_2, rr_90_2, rr_92_0, rr_92_1, rr_92_5, rr_92_6, rr_92_8, rr_92_9, rr_92_12, rr_92_15, rr_92_16, rr_92_17, c_rnumber E hi (show 0 < 4 by omega), c_rnumber E hi (show 1 < 4 by omega), Option.toList_some, List.cons_append, List.nil_append, s1, v0, v1]
    exact hk _ (tup (by omega)) (fun k h1 h2 h3 => by rw [u2_f (by omega)])
  · obtain ⟨rfl, h1, h2⟩ := h
    have v0 := s2 0 (by decide)
    have v1 := s2 1 (by decide)
    simp (disch := first | assumption | exact bz0 | exact bz1 | exact bzi | omega | decide +kernel) only [I_41_0, I_41_1, I_41_2, I_41_3, I_41_6, I_41_8, I_41_9, I_41_10, I_41_11, I_41_14, I_41_16, I_41_17, I_41_20, I_41_21, I_41_22_c0, I_41_22_c1, I_41_22_c2, I_41_22_c3, I_41_22_c4, I_41_22_c5, I_41_22_c6, I_41_22_d, I_41_64, I_41_65, I_41_67, I_41_69, I_41_70, I_41_71, I_41_72, I_41_75, I_41_76, I_41_77, I_41_78, I_41_81, I_41_84, I_41_87, I_41_88, I_41_91, I_41_93, I_41_95, I_41_96, I_41_99, I_41_100, I_41_103, I_41_105, I_41_106, I_41_107, I_41_108, I_41_110, I_41_111, I_41_112, I_41_113, I_41_116, I_41_117, I_41_120, I_41_122, I_41_124, I_41_125, I_41_128, I_41_129, I_41_132, I_41_134, I_41_136, I_41_137, I_41_140, I_41_141, I_41_144, I_41_146, I_41_148, I_41_149, I_41_152, I_41_153, I_41_156, I_41_159, I_41_160, I_41_162, I_41_164, I_41_167, rr_0_0, rr_0_1, rr_0_2, rr_0_3, rr_0_4, rr_0_5, rr_0_6, rr_0_7, rr_0_8, rr_1_0, rr_1_1, rr_1_2, rr_1_3, rr_2_4, rr_2_5, rr_2_6, rr_2_7, rr_2_8, rr_13_0, rr_15_4, rr_15_5, rr_15_6, rr_15_7, rr_15_8, rr_21_4, rr_21_5, rr_21_6, rr_21_7, rr_21_8, rr_27_4, rr_27_5, rr_27_6, rr_27_7, rr_27_8, rr_33_4, rr_33_5, rr_33_6, rr_33_7, rr_33_8, rr_39_4, rr_39_5, rr_39_6, rr_39_7, rr_39_8, rr_45_4, rr_45_5, rr_45_6, rr_45_7, rr_45_8, rr_51_4, rr_51_5, rr_51_6, rr_51_7, rr_51_8, rr_57_4, rr_57_5, rr_57_6, rr_57_7, rr_57_8, rr_63_2, rr_63_3, rr_63_4, rr_63_5, rr_68_0, rr_70_1, rr_70_2, rr_74_4, rr_74_5, rr_74_6, rr_74_7, rr_74_8, rr_80_4, rr_80_5, rr_80_6, rr_80_7, rr_80_8, rr_86_2, rr_88_2, rr_90_2, rr_92_0, rr_92_1, rr_92_5, rr_92_6, rr_92_8, rr_92_9, rr_92_12, rr_92_15, rr_92_16, rr_92_17, c_rnumber E hi (show 0 < 4 by omega), c_rnumber E hi (show 1 < 4 by omega), Option.toList_some, List.cons_append, List.nil_append, s1, v0, v1]
    exact hk _ (tup (by omega)) (fun k h1 h2 h3 => by rw [u2_f (by omega)])
  · obtain ⟨rfl, h1, h2⟩ := h
    have v0 := s2 0 (by decide)
    have v1 := s2 1 (by decide)
    simp (disch := first | assumption | exact bz0 | exact bz1 | exact bzi | omega | decide +kernel) only [I_41_0, I_41_1, I_41_2, I_41_3, I_41_6, I_41_8, I_41_9, I_41_10, I_41_11, I_41_14, I_41_16, I_41_17, I_41_20, I_41_21, I_41_22_c0, I_41_22_c1, I_41_22_c2, I_41_22_c3, I_41_22_c4, I_41_22_c5, I_41_22_c6, I_41_22_d, I_41_64, I_41_65, I_41_67, I_41_69, I_41_70, I_41_71, I_41_72, I_41_75, I_41_76, I_41_77, I_41_78, I_41_81, I_41_84, I_41_87, I_41_88, I_41_91, I_41_93, I_41_95, I_41_96, I_41_99, I_41_100, I_41_103, I_41_105, I_41_106, I_41_107, I_41_108, I_41_110, I_41_111, I_41_112, I_41_113, I_41_116, I_41_117, I_41_120, I_41_122, I_41_124, I_41_125, I_41_128, I_41_129, I_41_132, I_41_134, I_41_136, I_41_137, I_41_140, I_41_141, I_41_144, I_41_146, I_41_148, I_41_149, I_41_152, I_41_153, I_41_156, I_41_159, I_41_160, I_41_162, I_41_164, I_41_167, rr_0_0, rr_0_1, rr_0_2, rr_0_3, rr_0_4, rr_0_5, rr_0_6, rr_0_7, rr_0_8, rr_1_0, rr_1_1, rr_1_2, rr_1_3, rr_2_4, rr_2_5, rr_2_6, rr_2_7, rr_2_8, rr_13_0, rr_15_4, rr_15_5, rr_15_6, rr_15_7, rr_15_8, rr_21_4, rr_21_5, rr_21_6, rr_21_7, rr_21_8, rr_27_4, rr_27_5, rr_27_6, rr_27_7, rr_27_8, rr_33_4, rr_33_5, rr_33_6, rr_33_7, rr_33_8, rr_39_4, rr_39_5, rr_39_6, rr_39_7, rr_39_8, rr_45_4, rr_45_5, rr_45_6, rr_45_7, rr_45_8, rr_51_4, rr_51_5, rr_51_6, rr_51_7, rr_51_8, rr_57_4, rr_57_5, rr_57_6, rr_57_7, rr_57_8, rr_63_2, rr_63_3, rr_63_4, rr_63_5, rr_68_0, rr_70_1, rr_70_2, rr_74_4, rr_74_5, rr_74_6, rr_74_7, rr_74_8, rr_80_4, rr_80_5, rr_80_6, rr_80_7, rr_80_8, rr_86_2, rr_88_2, rr_90_2, rr_92_0, rr_92_1, rr_92_5, rr_92_6, rr_92_8, rr_92_9, rr_92_12, rr_92_15, rr_92_16, rr_92_17, c_rnumber E hi (show 0 < 4 by omega), c_rnumber E hi (show 1 < 4 by omega), Option.toList_some, List.cons_append, List.nil_append, s1, v0, v1]
    exact hk _ (tup (by omega)) (fun k h1 h2 h3 => by rw [u2_f (by omega)])
  · subst h
    simp (disch := first | assumption | exact bz0 | exact bz1 | exact bzi | omega | decide +kernel) only [I_41_0, I_41_1, I_41_2, I_41_3, I_41_6, I_41_8, I_41_9, I_41_10, I_41_11, I_41_14, I_41_16, I_41_17, I_41_20, I_41_21, I_41_22_c0, I_41_22_c1, I_41_22_c2, I_41_22_c3, I_41_22_c4, I_41_22_c5, I_41_22_c6, I_41_22_d, I_41_64, I_41_65, I_41_67, I_41_69, I_41_70, I_41_71, I_41_72, I_41_75, I_41_76, I_41_77, I_41_78, I_41_81, I_41_84, I_41_87, I_41_88, I_41_91, I_41_93, I_41_95, I_41_96, I_41_99, I_41_100, I_41_103, I_41_105, I_41_106, I_41_107, I_41_108, I_41_110, I_41_111, I_41_112, I_41_113, I_41_116, I_41_117, I_41_120, I_41_122, I_41_124, I_41_125, I_41_128, I_41_129, I_41_132, I_41_134, I_41_136, I_41_137, I_41_140, I_41_141, I_41_144, I_41_146, I_41_148, I_41_149, I_41_152, I_41_153, I_41_156, I_41_159, I_41_160, I_41_162, I_41_164, I_41_167, rr_0_0, rr_0_1, rr_0_2, rr_0_3, rr_0_4, rr_0_5, rr_0_6, rr_0_7, rr_0_8, rr_1_0, rr_1_1, rr_1_2, rr_1_3, rr_2_4, rr_2_5, rr_2_6, rr_2_7, rr_2_8, rr_13_0, rr_15_4, rr_15_5, rr_15_6, rr_15_7, rr_15_8, rr_21_4, rr_21_5, rr_21_6, rr_21_7, rr_21_8, rr_27_4, rr_27_5, rr_27_6, rr_27_7, rr_27_8, rr_33_4, rr_33_5, rr_33_6, rr_33_7, rr_33_8, rr_39_4, rr_39_5, rr_39_6, rr_39_7, rr_39_8, rr_45_4, rr_45_5, rr_45_6, rr_45_7, rr_45_8, rr_51_4, rr_51_5, rr_51_6, rr_51_7, rr_51_8, rr_57_4, rr_57_5, rr_57_6, rr_57_7, rr_57_8, rr_63_2, rr_63_3, rr_63_4, rr_63_5, rr_68_0, rr_70_1, rr_70_2, rr_74_4, rr_74_5, rr_74_6, rr_74_7, rr_74_8, rr_80_4, rr_80_5, rr_80_6, rr_80_7, rr_80_8, rr_86_2, rr_88_2, rr_90_2, rr_92_0, rr_92_1, rr_92_5, rr_92_6, rr_92_8, rr_92_9, rr_92_12, rr_92_15, rr_92_16, rr_92_17, c_rnumber E hi (show 0 < 4 by omega), c_rnumber E hi (show 1 < 4 by omega), Option.toList_some, List.cons_append, List.nil_append, s1, I_42_0, I_42_1, I_42_2, I_42_5, I_42_6, I_42_7, I_42_10, Option.toList_none]
    refine hk _ ⟨CD_fr hC (fun k h1 h2 => by rw [u2_f (by omega), u2_f (by omega)]), by rw [u2_i (by omega), u2_s]; rfl, by rw [u2_s]; rfl, fun i hi => absurd hi (Nat.not_lt_zero _)⟩ (fun k h1 h2 h3 => by rw [u2_f h2, u2_f h2])
  · obtain ⟨rfl, h1, h2, h3, h4⟩ := h
    have v0 := s2 0 (by decide)
    have v1 := s2 1 (by decide)
    have m0 := hM.1
    have qc : ¬ nI 12 ≤ nI r := nI_ge (by omega) (by omega)
    simp (disch := first | assumption | exact bz0 | exact bz1 | exact bzi | omega | decide +kernel) only [I_41_0, I_41_1, I_41_2, I_41_3, I_41_6, I_41_8, I_41_9, I_41_10, I_41_11, I_41_14, I_41_16, I_41_17, I_41_20, I_41_21, I_41_22_c0, I_41_22_c1, I_41_22_c2, I_41_22_c3, I_41_22_c4, I_41_22_c5, I_41_22_c6, I_41_22_d, I_41_64, I_41_65, I_41_67, I_41_69, I_41_70, I_41_71, I_41_72, I_41_75, I_41_76, I_41_77, I_41_78, I_41_81, I_41_84, I_41_87, I_41_88, I_41_91, I_41_93, I_41_95, I_41_96, I_41_99, I_41_100, I_41_103, I_41_105, I_41_106, I_41_107, I_41_108, I_41_110, I_41_111, I_41_112, I_41_113, I_41_116, I_41_117, I_41_120, I_41_122, I_41_124, I_41_125, I_41_128, I_41_129, I_41_132, I_41_134, I_41_136, I_41_137, I_41_140, I_41_141, I_41_144, I_41_146, I_41_148, I_41_149, I_41_152, I_41_153, I_41_156, I_41_159, I_41_160, I_41_162, I_41_164, I_41_167, rr_0_0, rr_0_1, rr_0_2, rr_0_3, rr_0_4, rr_0_5, rr_0_6, rr_0_7, rr_0_8, rr_1_0, rr_1_1, rr_1_2, rr_1_3, rr_2_4, rr_2_5, rr_2_6, rr_2_7, rr_2_8, rr_13_0, rr_15_4, rr_15_5, rr_15_6, rr_15_7, rr_15_8, rr_21_4, rr_21_5, rr_21_6, rr_21_7, rr_21_8, rr_27_4, rr_27_5, rr_27_6, rr_27_7, rr_27_8, rr_33_4, rr_33_5, rr_33_6, rr_33_7, rr_33_8, rr_39_4, rr_39_5, rr_39_6, rr_39_7, rr_39_8, rr_45_4, rr_45_5, rr_45_6, rr_45_7, rr_45_8, rr_51_4, rr_51_5, rr_51_6, rr_51_7, rr_51_8, rr_57_4, rr_57_5, rr_57_6, rr_57_7, rr_57_8, rr_63_2, rr_63_3, rr_63_4, rr_63_5, rr_68_0, rr_70_1, rr_70_2, rr_74_4, rr_74_5, rr_74_6, rr_74_7, rr_74_8, rr_80_4, rr_80_5, rr_80_6, rr_80_7, rr_80_8, rr_86_2, rr_88_2, rr_90_2, rr_92_0, rr_92_1, rr_92_5, rr_92_6, rr_92_8, rr_92_9, rr_92_12, rr_92_15, rr_92_16, rr_92_17, c_rnumber E hi (show 0 < 4 by omega), c_rnumber E hi (show 1 < 4 by omega), Option.toList_some, List.cons_append, List.nil_append, s1, v0, v1, I_43_0, I_43_1, I_43_4, I_43_6, I_43_9, I_43_10, I_43_13, I_43_14, I_43_17, I_43_18, I_43_19, I_43_20, I_43_21, I_43_24, I_43_25, I_43_26, I_43_29, I_43_30, I_43_31, I_43_34, m0, qc, ↓reduceIte, u2_k, u2_i, nI_add, Option.toList_none]
    exact hk _ ⟨CD_fr hC (fun k h1 h2 => by rw [u2_f (by omega), u2_f (by omega), u2_f (by omega)]), CM_set hM _ _⟩ (fun k h1 h2 h3 => by rw [u2_f h2, u2_f h2, u2_f h3])
theorem L_carryOut (E : ip_E) {m : Nat} (hm : m ≤ 24) (κ : Option Value → ip_G → Prop) : ∀ (L : List (Nat × (Nat → Nat))) (i : Nat) (S : dSt) (σ : ip_G), i + L.length = m → σ 70 0 = nI m → stL σ i L → CQ σ S → gS S → vL L S → (∀ σ2, CQ σ2 (doL L S) → (∀ k, (k < 2 ∨ 8 ≤ k) → k ≠ 63 → k ≠ 64 → σ2 k = σ k) → κ none σ2) → wp E 40 2 [.ref 70, .ref 2, .ref 63, .int (nI i)] [] σ κ := by
  intro L
  induction L with
  | nil =>
    intro i S σ hl h0 hs hQ hg hv hk
    have hc : nI m ≤ nI i := nI_le (by rw [List.length_nil] at hl; omega) (by rw [List.length_nil] at hl; omega)
    simp (disch := first | assumption | exact bz0 | exact bz1 | exact bzi | omega | decide +kernel) only [I_40_0, I_40_1, I_40_2, I_40_3, I_40_4, I_40_7, I_40_10, I_40_11, I_40_12, I_40_13, I_40_14, I_40_17, I_40_20, I_40_23, h0, hc, ↓reduceIte]
    exact hk σ hQ (fun _ _ _ _ => rfl)
  | cons q L ih =>
    intro i S σ hl h0 hs hQ hg hv hk
    rw [List.length_cons] at hl
    have hc : ¬ nI m ≤ nI i := nI_ge (by omega) (by omega)
    rw [I_40_2]
    simp (disch := first | assumption | exact bz0 | exact bz1 | exact bzi | omega | decide +kernel) only [I_40_0, I_40_1, I_40_3, I_40_4, I_40_7, I_40_10, I_40_11, I_40_12, I_40_13, I_40_14, I_40_17, I_40_20, I_40_23, h0, hc, ↓reduceIte]
    refine c_carryOutClause E (by omega) hs.1 hQ hg hv.1 _ (fun σ2 g1 g2 => ?_)
    simp (disch := first | assumption | exact bz0 | exact bz1 | exact bzi | omega | decide +kernel) only [I_40_0, I_40_1, I_40_3, I_40_4, I_40_7, I_40_10, I_40_11, I_40_12, I_40_13, I_40_14, I_40_17, I_40_20, I_40_23, Option.toList_none, Option.toList_some, List.cons_append, List.nil_append, nI_add]
    refine ih (i + 1) (doS q S) σ2 (by omega) (by rw [g2 70 (by omega) (by omega) (by omega)]; exact h0) (stL_eq (g2 71 (by omega) (by omega) (by omega)) (g2 72 (by omega) (by omega) (by omega)) L (i + 1) hs.2) g1 (doS_g hg hv.1) hv.2 (fun σ3 f1 f2 => hk σ3 f1 (fun k h1 h2 h3 => by rw [f2 k h1 h2 h3]; exact g2 k h1 h2 h3))
theorem c_carryOut (E : ip_E) {L : List (Nat × (Nat → Nat))} {S : dSt} {σ : ip_G} (hm : L.length ≤ 24) (h0 : σ 70 0 = nI L.length) (hs : stL σ 0 L) (hQ : CQ σ S) (hg : gS S) (hv : vL L S) (κ : Option Value → ip_G → Prop) (hk : ∀ σ2, CQ σ2 (doL L S) → (∀ k, (k < 2 ∨ 8 ≤ k) → k ≠ 63 → k ≠ 64 → σ2 k = σ k) → κ none σ2) : wp E 40 0 [.ref 70, .ref 2, .ref 63, .retAddr 0] [] σ κ := by
  simp (disch := first | assumption | exact bz0 | exact bz1 | exact bzi | omega | decide +kernel) only [I_40_0, I_40_1, I_40_3, I_40_4, I_40_7, I_40_10, I_40_11, I_40_12, I_40_13, I_40_14, I_40_17, I_40_20, I_40_23]
  exact L_carryOut E hm κ L 0 S σ (by omega) h0 hs hQ hg hv hk
/-- what fault answers -/
def fltR (n : Nat) (T : Nat → Nat) (D : Nat → Nat) (r c : Nat) : Int32 := if (rd n T 24 0 (rz D r c)).1 = true then -1 else nI (ts n T (rd n T 24 0 (rz D r c)).2.1)
theorem c_fault (E : ip_E) (hE : ip_fok2 E.2.2) {σ : ip_G} {n : Nat} {T : Nat → Nat} {D : Nat → Nat} {r c : Nat} {X : Nat → Nat} (hT : CT σ n T) (hC : CD σ 2 D) (hX : CM σ r c X) (hW : WD D) (hWX : WX r c X) (κ : Option Value → ip_G → Prop) (hk : ∀ σ2, CT σ2 n T → (∀ k, k ≠ 68 → k ≠ 70 → k ≠ 71 → k ≠ 72 → σ2 k = σ k) → κ (some (.int (fltR n T D r c))) σ2) : wp E 11 0 [.ref 0] [] σ κ := by
  simp (disch := first | assumption | exact bz0 | exact bz1 | exact bzi | omega | decide +kernel) only [I_11_0, I_11_1, I_11_4, I_11_5, I_11_8, I_11_9, I_11_12, I_11_13, I_11_16, I_11_19, rr_0_0, rr_0_1, rr_0_2, rr_0_3, rr_0_4, rr_0_5, rr_0_6, rr_0_7, rr_0_8, rr_1_0, rr_1_1, rr_1_2, rr_1_3, rr_2_4, rr_2_5, rr_2_6, rr_2_7, rr_2_8, rr_13_0, rr_15_4, rr_15_5, rr_15_6, rr_15_7, rr_15_8, rr_21_4, rr_21_5, rr_21_6, rr_21_7, rr_21_8, rr_27_4, rr_27_5, rr_27_6, rr_27_7, rr_27_8, rr_33_4, rr_33_5, rr_33_6, rr_33_7, rr_33_8, rr_39_4, rr_39_5, rr_39_6, rr_39_7, rr_39_8, rr_45_4, rr_45_5, rr_45_6, rr_45_7, rr_45_8, rr_51_4, rr_51_5, rr_51_6, rr_51_7, rr_51_8, rr_57_4, rr_57_5, rr_57_6, rr_57_7, rr_57_8, rr_63_2, rr_63_3, rr_63_4, rr_63_5, rr_68_0, rr_70_1, rr_70_2, rr_74_4, rr_74_5, rr_74_6, rr_74_7, rr_74_8, rr_80_4, rr_80_5, rr_80_6, rr_80_7, rr_80_8, rr_86_2, rr_88_2, rr_90_2, rr_92_0, rr_92_1, rr_92_5, rr_92_6, rr_92_8, rr_92_9, rr_92_12, rr_92_15, rr_92_16, rr_92_17]
  refine c_read E hE hT hC hX hW hWX _ (fun b p2 L σ2 e1 e2 e3 e4 => ?_)
  simp (disch := first | assumption | exact bz0 | exact bz1 | exact bzi | omega | decide +kernel) only [I_11_0, I_11_1, I_11_4, I_11_5, I_11_8, I_11_9, I_11_12, I_11_13, I_11_16, I_11_19, Option.toList_some, List.cons_append, List.nil_append]
  have hf : fltR n T D r c = if b = true then -1 else nI (ts n T p2) := by unfold fltR; rw [e1]
  rw [← hf]
  exact hk σ2 e2 e4
/-- the last steps of draft: nothing is kept, the spools are all missing -/
def drR (n : Nat) (T : Nat → Nat) (D : Nat → Nat) (r c : Nat) : Int32 := if (rd n T 24 0 (rz D r c)).1 = true then nI (rd n T 24 0 (rz D r c)).2.2.length else -4
def drB (n : Nat) (T : Nat → Nat) (D : Nat → Nat) (r c : Nat) : Bool := (rd n T 24 0 (rz D r c)).1
def drL (n : Nat) (T : Nat → Nat) (D : Nat → Nat) (r c : Nat) (X : Nat → Nat) : dSt := if drB n T D r c = true then doL (rd n T 24 0 (rz D r c)).2.2 (D, r, c, X) else (D, r, c, X)
theorem drL_g {n : Nat} {T : Nat → Nat} {D : Nat → Nat} {r c : Nat} {X : Nat → Nat} (hW : WD D) (hX : WX r c X) : gS (drL n T D r c X) := by
  unfold drL
  split
  · next h => exact doL_g _ _ ⟨hW, hX⟩ (rd_v _ _ _ _ rz_S ⟨hW, hX⟩ h)
  · exact ⟨hW, hX⟩
def kb0 : Nat → Bool := fun _ => false
def zz0 : Nat → Nat → Nat := fun _ _ => 0
theorem zz0_W : WZ zz0 := fun _ _ => sp0_W
theorem L_draft1 (E : ip_E) (κ : Option Value → ip_G → Prop) : ∀ (m i : Nat) (σ : ip_G), i + m = 2 → (∀ j, j < i → σ 12 j = nI 0) → (∀ σ2, (∀ j, j < 2 → σ2 12 j = nI 0) → (∀ k, k ≠ 12 → σ2 k = σ k) → wp E 39 76 [.ref 0, .int (nI 2)] [] σ2 κ) → wp E 39 58 [.ref 0, .int (nI i)] [] σ κ := by
  intro m
  induction m with
  | zero =>
    intro i σ hi hz hk
    have : i = 2 := by omega
    subst this
    have hc : nI 2 ≤ nI 2 := nI_le (by omega) (by omega)
    simp (disch := first | assumption | exact bz0 | exact bz1 | exact bzi | omega | decide +kernel) only [I_39_0, I_39_1, I_39_4, I_39_5, I_39_8, I_39_9, I_39_12, I_39_13, I_39_16, I_39_19, I_39_20, I_39_23, I_39_25, I_39_26, I_39_27, I_39_30, I_39_31, I_39_34, I_39_35, I_39_38, I_39_41, I_39_42, I_39_45, I_39_46, I_39_49, I_39_50, I_39_53, I_39_56, I_39_57, I_39_58, I_39_59, I_39_60, I_39_63, I_39_64, I_39_67, I_39_68, I_39_69, I_39_70, I_39_73, I_39_77, I_39_78, I_39_79, I_39_80, I_39_83, I_39_84, I_39_87, I_39_88, I_39_89, I_39_92, I_39_95, I_39_98, I_39_99, I_39_102, I_39_105, hc, ↓reduceIte]
    exact hk σ hz (fun _ _ => rfl)
  | succ m ih =>
    intro i σ hi hz hk
    have hc : ¬ nI 2 ≤ nI i := nI_ge (by omega) (by omega)
    rw [I_39_58]
    simp (disch := first | assumption | exact bz0 | exact bz1 | exact bzi | omega | decide +kernel) only [I_39_0, I_39_1, I_39_4, I_39_5, I_39_8, I_39_9, I_39_12, I_39_13, I_39_16, I_39_19, I_39_20, I_39_23, I_39_25, I_39_26, I_39_27, I_39_30, I_39_31, I_39_34, I_39_35, I_39_38, I_39_41, I_39_42, I_39_45, I_39_46, I_39_49, I_39_50, I_39_53, I_39_56, I_39_57, I_39_59, I_39_60, I_39_63, I_39_64, I_39_67, I_39_68, I_39_69, I_39_70, I_39_73, I_39_77, I_39_78, I_39_79, I_39_80, I_39_83, I_39_84, I_39_87, I_39_88, I_39_89, I_39_92, I_39_95, I_39_98, I_39_99, I_39_102, I_39_105, rr_0_0, rr_0_1, rr_0_2, rr_0_3, rr_0_4, rr_0_5, rr_0_6, rr_0_7, rr_0_8, rr_1_0, rr_1_1, rr_1_2, rr_1_3, rr_2_4, rr_2_5, rr_2_6, rr_2_7, rr_2_8, rr_13_0, rr_15_4, rr_15_5, rr_15_6, rr_15_7, rr_15_8, rr_21_4, rr_21_5, rr_21_6, rr_21_7, rr_21_8, rr_27_4, rr_27_5, rr_27_6, rr_27_7, rr_27_8, rr_33_4, rr_33_5, rr_33_6, rr_33_7, rr_33_8, rr_39_4, rr_39_5, rr_39_6, rr_39_7, rr_39_8, rr_45_4, rr_45_5, rr_45_6, rr_45_7, rr_45_8, rr_51_4, rr_51_5, rr_51_6, rr_51_7, rr_51_8, rr_57_4, rr_57_5, rr_57_6, rr_57_7, rr_57_8, rr_63_2, rr_63_3, rr_63_4, rr_63_5, rr_68_0, rr_70_1, rr_70_2, rr_74_4, rr_74_5, rr_74_6, rr_74_7, rr_74_8, rr_80_4, rr_80_5, rr_80_6, rr_80_7, rr_80_8, rr_86_2, rr_88_2, rr_90_2, rr_92_0, rr_92_1, rr_92_5, rr_92_6, rr_92_8, rr_92_9, rr_92_12, rr_92_15, rr_92_16, rr_92_17, hc, ↓reduceIte, nI_add]
    refine ih (i + 1) _ (by omega) (fun j hj => ?_) (fun σ2 a b => hk σ2 a (fun k h => by rw [b k h, u2_f h]))
    by_cases e : j = i
    · rw [e, u2_s]
    · rw [u2_i e]; exact hz j (by omega)
theorem L_draft2 (E : ip_E) (κ : Option Value → ip_G → Prop) : ∀ (m i : Nat) (σ : ip_G), i + m = 3 → (∀ j, j < i → CS1 σ j sp0) → (∀ σ2, CS σ2 zz0 → (∀ k, k < 86 ∨ 92 ≤ k → σ2 k = σ k) → wp E 39 98 [.ref 0, .int (nI 3)] [] σ2 κ) → wp E 39 78 [.ref 0, .int (nI i)] [] σ κ := by
  intro m
  induction m with
  | zero =>
    intro i σ hi hz hk
    have : i = 3 := by omega
    subst this
    have hc : nI 3 ≤ nI 3 := nI_le (by omega) (by omega)
    simp (disch := first | assumption | exact bz0 | exact bz1 | exact bzi | omega | decide +kernel) only [I_39_0, I_39_1, I_39_4, I_39_5, I_39_8, I_39_9, I_39_12, I_39_13, I_39_16, I_39_19, I_39_20, I_39_23, I_39_25, I_39_26, I_39_27, I_39_30, I_39_31, I_39_34, I_39_35, I_39_38, I_39_41, I_39_42, I_39_45, I_39_46, I_39_49, I_39_50, I_39_53, I_39_56, I_39_57, I_39_58, I_39_59, I_39_60, I_39_63, I_39_64, I_39_67, I_39_68, I_39_69, I_39_70, I_39_73, I_39_76, I_39_77, I_39_78, I_39_79, I_39_80, I_39_83, I_39_84, I_39_87, I_39_88, I_39_89, I_39_92, I_39_95, I_39_99, I_39_102, I_39_105, hc, ↓reduceIte]
    exact hk σ hz (fun _ _ => rfl)
  | succ m ih =>
    intro i σ hi hz hk
    have hc : ¬ nI 3 ≤ nI i := nI_ge (by omega) (by omega)
    have hr : ip_rr 73 i = 86 + 2 * i := (by decide +kernel : ∀ i, i < 3 → ip_rr 73 i = 86 + 2 * i) i (by omega)
    have ht := (sp_tg (show i < 3 by omega)).1
    rw [I_39_78]
    simp (disch := first | assumption | exact bz0 | exact bz1 | exact bzi | omega | decide +kernel) only [I_39_0, I_39_1, I_39_4, I_39_5, I_39_8, I_39_9, I_39_12, I_39_13, I_39_16, I_39_19, I_39_20, I_39_23, I_39_25, I_39_26, I_39_27, I_39_30, I_39_31, I_39_34, I_39_35, I_39_38, I_39_41, I_39_42, I_39_45, I_39_46, I_39_49, I_39_50, I_39_53, I_39_56, I_39_57, I_39_58, I_39_59, I_39_60, I_39_63, I_39_64, I_39_67, I_39_68, I_39_69, I_39_70, I_39_73, I_39_76, I_39_77, I_39_79, I_39_80, I_39_83, I_39_84, I_39_87, I_39_88, I_39_89, I_39_92, I_39_95, I_39_99, I_39_102, I_39_105, rr_0_0, rr_0_1, rr_0_2, rr_0_3, rr_0_4, rr_0_5, rr_0_6, rr_0_7, rr_0_8, rr_1_0, rr_1_1, rr_1_2, rr_1_3, rr_2_4, rr_2_5, rr_2_6, rr_2_7, rr_2_8, rr_13_0, rr_15_4, rr_15_5, rr_15_6, rr_15_7, rr_15_8, rr_21_4, rr_21_5, rr_21_6, rr_21_7, rr_21_8, rr_27_4, rr_27_5, rr_27_6, rr_27_7, rr_27_8, rr_33_4, rr_33_5, rr_33_6, rr_33_7, rr_33_8, rr_39_4, rr_39_5, rr_39_6, rr_39_7, rr_39_8, rr_45_4, rr_45_5, rr_45_6, rr_45_7, rr_45_8, rr_51_4, rr_51_5, rr_51_6, rr_51_7, rr_51_8, rr_57_4, rr_57_5, rr_57_6, rr_57_7, rr_57_8, rr_63_2, rr_63_3, rr_63_4, rr_63_5, rr_68_0, rr_70_1, rr_70_2, rr_74_4, rr_74_5, rr_74_6, rr_74_7, rr_74_8, rr_80_4, rr_80_5, rr_80_6, rr_80_7, rr_80_8, rr_86_2, rr_88_2, rr_90_2, rr_92_0, rr_92_1, rr_92_5, rr_92_6, rr_92_8, rr_92_9, rr_92_12, rr_92_15, rr_92_16, rr_92_17, hr, hc, ↓reduceIte]
    refine c_takeAway E (show i < 3 by omega) _ (fun σ2 g1 g2 => ?_)
    simp (disch := first | assumption | exact bz0 | exact bz1 | exact bzi | omega | decide +kernel) only [I_39_0, I_39_1, I_39_4, I_39_5, I_39_8, I_39_9, I_39_12, I_39_13, I_39_16, I_39_19, I_39_20, I_39_23, I_39_25, I_39_26, I_39_27, I_39_30, I_39_31, I_39_34, I_39_35, I_39_38, I_39_41, I_39_42, I_39_45, I_39_46, I_39_49, I_39_50, I_39_53, I_39_56, I_39_57, I_39_58, I_39_59, I_39_60, I_39_63, I_39_64, I_39_67, I_39_68, I_39_69, I_39_70, I_39_73, I_39_76, I_39_77, I_39_79, I_39_80, I_39_83, I_39_84, I_39_87, I_39_88, I_39_89, I_39_92, I_39_95, I_39_99, I_39_102, I_39_105, Option.toList_none, Option.toList_some, List.cons_append, List.nil_append, nI_add]
    refine ih (i + 1) σ2 (by omega) (fun j hj => ?_) (fun σ3 a b => hk σ3 a (fun k h => by rw [b k h, g2 k (by omega)]))
    by_cases e : j = i
    · rw [e]; exact g1
    · have := hz j (by omega)
      unfold CS1 at this ⊢
      rw [g2 (86 + 2 * j) (by omega), g2 (87 + 2 * j) (by omega)]
      exact this
/-- what draft changes beside the text: all of the state -/
theorem c_draft (E : ip_E) (hE : ip_fok2 E.2.2) {σ : ip_G} {n : Nat} {T : Nat → Nat} {D : Nat → Nat} {r c : Nat} {X : Nat → Nat} {np : Nat} {P : Nat → Nat → Nat} {kb : Nat → Bool} {K : Nat → Nat → Nat} {Z : Nat → Nat → Nat} (hT : CT σ n T) (hC : CD σ 2 D) (hX : CM σ r c X) (hW : WD D) (hWX : WX r c X) (hP : CP σ np P) (hK : CK σ kb K) (hS : CS σ Z) (κ : Option Value → ip_G → Prop) (hk : ∀ σ2, CT σ2 (if drB n T D r c = true then 0 else n) T → CQ σ2 (drL n T D r c X) → CP σ2 (if drB n T D r c = true then 0 else np) P → CK σ2 (if drB n T D r c = true then kb0 else kb) K → CS σ2 (if drB n T D r c = true then zz0 else Z) → (∀ k, 92 ≤ k → σ2 k = σ k) → κ (some (.int (drR n T D r c))) σ2) : wp E 39 0 [.ref 0, .retAddr 0] [] σ κ := by
  simp (disch := first | assumption | exact bz0 | exact bz1 | exact bzi | omega | decide +kernel) only [I_39_0, I_39_1, I_39_4, I_39_5, I_39_8, I_39_9, I_39_12, I_39_13, I_39_16, I_39_19, I_39_20, I_39_23, I_39_25, I_39_26, I_39_27, I_39_30, I_39_31, I_39_34, I_39_35, I_39_38, I_39_41, I_39_42, I_39_45, I_39_46, I_39_49, I_39_50, I_39_53, I_39_56, I_39_57, I_39_58, I_39_59, I_39_60, I_39_63, I_39_64, I_39_67, I_39_68, I_39_69, I_39_70, I_39_73, I_39_76, I_39_77, I_39_78, I_39_79, I_39_80, I_39_83, I_39_84, I_39_87, I_39_88, I_39_89, I_39_92, I_39_95, I_39_98, I_39_99, I_39_102, I_39_105, rr_0_0, rr_0_1, rr_0_2, rr_0_3, rr_0_4, rr_0_5, rr_0_6, rr_0_7, rr_0_8, rr_1_0, rr_1_1, rr_1_2, rr_1_3, rr_2_4, rr_2_5, rr_2_6, rr_2_7, rr_2_8, rr_13_0, rr_15_4, rr_15_5, rr_15_6, rr_15_7, rr_15_8, rr_21_4, rr_21_5, rr_21_6, rr_21_7, rr_21_8, rr_27_4, rr_27_5, rr_27_6, rr_27_7, rr_27_8, rr_33_4, rr_33_5, rr_33_6, rr_33_7, rr_33_8, rr_39_4, rr_39_5, rr_39_6, rr_39_7, rr_39_8, rr_45_4, rr_45_5, rr_45_6, rr_45_7, rr_45_8, rr_51_4, rr_51_5, rr_51_6, rr_51_7, rr_51_8, rr_57_4, rr_57_5, rr_57_6, rr_57_7, rr_57_8, rr_63_2, rr_63_3, rr_63_4, rr_63_5, rr_68_0, rr_70_1, rr_70_2, rr_74_4, rr_74_5, rr_74_6, rr_74_7, rr_74_8, rr_80_4, rr_80_5, rr_80_6, rr_80_7, rr_80_8, rr_86_2, rr_88_2, rr_90_2, rr_92_0, rr_92_1, rr_92_5, rr_92_6, rr_92_8, rr_92_9, rr_92_12, rr_92_15, rr_92_16, rr_92_17]
  refine c_read E hE hT hC hX hW hWX _ (fun b p2 L σ2 e1 e2 e3 e4 => ?_)
  have hdb : drB n T D r c = b := by unfold drB; rw [e1]
  have hdr : drR n T D r c = if b = true then nI L.length else -4 := by unfold drR; rw [e1]
  have hdl : drL n T D r c X = if b = true then doL L (D, r, c, X) else (D, r, c, X) := by unfold drL; rw [hdb, e1]
  have cd2 : CD σ2 2 D := CD_fr hC (fun k h1 h2 => e4 k (by omega) (by omega) (by omega) (by omega))
  have cm2 : CM σ2 r c X := CM_fr hX (e4 63 (by omega) (by omega) (by omega) (by omega)) (e4 64 (by omega) (by omega) (by omega) (by omega))
  rw [hdb, hdr, hdl] at hk
  cases b with
  | false =>
    simp only [Bool.false_eq_true, ↓reduceIte] at hk
    have q : ¬ nI (ts n T p2) = -1 := by
      have hp2 : p2 ≤ n ∨ True := Or.inr trivial
      have h1 : ts n T p2 < 2 ^ 31 := by
        have hle : (rd n T 24 0 (rz D r c)).2.1 ≤ n := rd_le 24 0 (rz D r c) (Nat.zero_le _)
        rw [e1] at hle
        dsimp only at hle
        have := (te_le (T := T) hle).2.2.2
        have := hT.2.1
        omega
      intro z
      have := congrArg Int32.toInt z
      rw [nI_toInt h1, show (-1 : Int32).toInt = -1 from by decide +kernel] at this
      omega
    simp (disch := first | assumption | exact bz0 | exact bz1 | exact bzi | omega | decide +kernel) only [I_39_0, I_39_1, I_39_4, I_39_5, I_39_8, I_39_9, I_39_12, I_39_13, I_39_16, I_39_19, I_39_20, I_39_23, I_39_25, I_39_26, I_39_27, I_39_30, I_39_31, I_39_34, I_39_35, I_39_38, I_39_41, I_39_42, I_39_45, I_39_46, I_39_49, I_39_50, I_39_53, I_39_56, I_39_57, I_39_58, I_39_59, I_39_60, I_39_63, I_39_64, I_39_67, I_39_68, I_39_69, I_39_70, I_39_73, I_39_76, I_39_77, I_39_78, I_39_79, I_39_80, I_39_83, I_39_84, I_39_87, I_39_88, I_39_89, I_39_92, I_39_95, I_39_98, I_39_99, I_39_102, I_39_105, Option.toList_some, List.cons_append, List.nil_append, Bool.false_eq_true, ↓reduceIte, q]
    refine hk σ2 e2 ⟨cd2, cm2⟩ (CP_fr hP (fun k h1 h2 => e4 k (by omega) (by omega) (by omega) (by omega))) (fun k hk2 => ?_) (fun t ht => ?_) (fun k h => e4 k (by omega) (by omega) (by omega) (by omega))
    · rw [e4 12 (by omega) (by omega) (by omega) (by omega)]
      exact ⟨(hK k hk2).1, fun z => ⟨CD_fr ((hK k hk2).2 z).1 (fun a h1 h2 => e4 a (by omega) (by omega) (by omega) (by omega)), ((hK k hk2).2 z).2⟩⟩
    · have := hS t ht
      unfold CS1 at this ⊢
      rw [e4 _ (by omega) (by omega) (by omega) (by omega), e4 (87 + 2 * t) (by omega) (by omega) (by omega) (by omega)]
      exact this
  | true =>
    simp only [↓reduceIte] at hk
    have hlen : L.length ≤ 24 := by have := rd_len (n := n) (T := T) 24 0 (rz D r c); rw [e1] at this; exact this
    have hv : vL L (D, r, c, X) := by
      have := rd_v (n := n) (T := T) 24 0 (rz D r c) (D, r, c, X) rz_S ⟨hW, hWX⟩ (by rw [e1])
      rw [e1] at this
      exact this
    simp (disch := first | assumption | exact bz0 | exact bz1 | exact bzi | omega | decide +kernel) only [I_39_0, I_39_1, I_39_4, I_39_5, I_39_8, I_39_9, I_39_12, I_39_13, I_39_16, I_39_19, I_39_20, I_39_23, I_39_25, I_39_26, I_39_27, I_39_30, I_39_31, I_39_34, I_39_35, I_39_38, I_39_41, I_39_42, I_39_45, I_39_46, I_39_49, I_39_50, I_39_53, I_39_56, I_39_57, I_39_58, I_39_59, I_39_60, I_39_63, I_39_64, I_39_67, I_39_68, I_39_69, I_39_70, I_39_73, I_39_76, I_39_77, I_39_78, I_39_79, I_39_80, I_39_83, I_39_84, I_39_87, I_39_88, I_39_89, I_39_92, I_39_95, I_39_98, I_39_99, I_39_102, I_39_105, rr_0_0, rr_0_1, rr_0_2, rr_0_3, rr_0_4, rr_0_5, rr_0_6, rr_0_7, rr_0_8, rr_1_0, rr_1_1, rr_1_2, rr_1_3, rr_2_4, rr_2_5, rr_2_6, rr_2_7, rr_2_8, rr_13_0, rr_15_4, rr_15_5, rr_15_6, rr_15_7, rr_15_8, rr_21_4, rr_21_5, rr_21_6, rr_21_7, rr_21_8, rr_27_4, rr_27_5, rr_27_6, rr_27_7, rr_27_8, rr_33_4, rr_33_5, rr_33_6, rr_33_7, rr_33_8, rr_39_4, rr_39_5, rr_39_6, rr_39_7, rr_39_8, rr_45_4, rr_45_5, rr_45_6, rr_45_7, rr_45_8, rr_51_4, rr_51_5, rr_51_6, rr_51_7, rr_51_8, rr_57_4, rr_57_5, rr_57_6, rr_57_7, rr_57_8, rr_63_2, rr_63_3, rr_63_4, rr_63_5, rr_68_0, rr_70_1, rr_70_2, rr_74_4, rr_74_5, rr_74_6, rr_74_7, rr_74_8, rr_80_4, rr_80_5, rr_80_6, rr_80_7, rr_80_8, rr_86_2, rr_88_2, rr_90_2, rr_92_0, rr_92_1, rr_92_5, rr_92_6, rr_92_8, rr_92_9, rr_92_12, rr_92_15, rr_92_16, rr_92_17, Option.toList_some, List.cons_append, List.nil_append, ↓reduceIte]
    refine c_carryOut E hlen (e3 rfl).2 (e3 rfl).1 (S := (D, r, c, X)) ⟨cd2, cm2⟩ ⟨hW, hWX⟩ hv _ (fun σ3 f1 f2 => ?_)
    simp (disch := first | assumption | exact bz0 | exact bz1 | exact bzi | omega | decide +kernel) only [I_39_0, I_39_1, I_39_4, I_39_5, I_39_8, I_39_9, I_39_12, I_39_13, I_39_16, I_39_19, I_39_20, I_39_23, I_39_25, I_39_26, I_39_27, I_39_30, I_39_31, I_39_34, I_39_35, I_39_38, I_39_41, I_39_42, I_39_45, I_39_46, I_39_49, I_39_50, I_39_53, I_39_56, I_39_57, I_39_59, I_39_60, I_39_63, I_39_64, I_39_67, I_39_68, I_39_69, I_39_70, I_39_73, I_39_76, I_39_77, I_39_78, I_39_79, I_39_80, I_39_83, I_39_84, I_39_87, I_39_88, I_39_89, I_39_92, I_39_95, I_39_98, I_39_99, I_39_102, I_39_105, rr_0_0, rr_0_1, rr_0_2, rr_0_3, rr_0_4, rr_0_5, rr_0_6, rr_0_7, rr_0_8, rr_1_0, rr_1_1, rr_1_2, rr_1_3, rr_2_4, rr_2_5, rr_2_6, rr_2_7, rr_2_8, rr_13_0, rr_15_4, rr_15_5, rr_15_6, rr_15_7, rr_15_8, rr_21_4, rr_21_5, rr_21_6, rr_21_7, rr_21_8, rr_27_4, rr_27_5, rr_27_6, rr_27_7, rr_27_8, rr_33_4, rr_33_5, rr_33_6, rr_33_7, rr_33_8, rr_39_4, rr_39_5, rr_39_6, rr_39_7, rr_39_8, rr_45_4, rr_45_5, rr_45_6, rr_45_7, rr_45_8, rr_51_4, rr_51_5, rr_51_6, rr_51_7, rr_51_8, rr_57_4, rr_57_5, rr_57_6, rr_57_7, rr_57_8, rr_63_2, rr_63_3, rr_63_4, rr_63_5, rr_68_0, rr_70_1, rr_70_2, rr_74_4, rr_74_5, rr_74_6, rr_74_7, rr_74_8, rr_80_4, rr_80_5, rr_80_6, rr_80_7, rr_80_8, rr_86_2, rr_88_2, rr_90_2, rr_92_0, rr_92_1, rr_92_5, rr_92_6, rr_92_8, rr_92_9, rr_92_12, rr_92_15, rr_92_16, rr_92_17, Option.toList_none, Option.toList_some, List.cons_append, List.nil_append, I_44_0, I_44_1, I_44_2, I_44_5]
    have f70 : σ3 70 = σ2 70 := f2 70 (by omega) (by omega) (by omega)
    refine L_draft1 E κ 2 0 _ (by omega) (fun j hj => absurd hj (by omega)) (fun σ4 g1 g2 => ?_)
    simp (disch := first | assumption | exact bz0 | exact bz1 | exact bzi | omega | decide +kernel) only [I_39_0, I_39_1, I_39_4, I_39_5, I_39_8, I_39_9, I_39_12, I_39_13, I_39_16, I_39_19, I_39_20, I_39_23, I_39_25, I_39_26, I_39_27, I_39_30, I_39_31, I_39_34, I_39_35, I_39_38, I_39_41, I_39_42, I_39_45, I_39_46, I_39_49, I_39_50, I_39_53, I_39_56, I_39_57, I_39_58, I_39_59, I_39_60, I_39_63, I_39_64, I_39_67, I_39_68, I_39_69, I_39_70, I_39_73, I_39_76, I_39_77, I_39_79, I_39_80, I_39_83, I_39_84, I_39_87, I_39_88, I_39_89, I_39_92, I_39_95, I_39_98, I_39_99, I_39_102, I_39_105]
    refine L_draft2 E κ 3 0 _ (by omega) (fun j hj => absurd hj (by omega)) (fun σ5 h1 h2 => ?_)
    have y0 : σ5 70 0 = nI L.length := by rw [h2 70 (by omega), g2 70 (by omega), u2_f (by omega), u2_f (by omega), f70]; exact (e3 rfl).2
    simp (disch := first | assumption | exact bz0 | exact bz1 | exact bzi | omega | decide +kernel) only [I_39_0, I_39_1, I_39_4, I_39_5, I_39_8, I_39_9, I_39_12, I_39_13, I_39_16, I_39_19, I_39_20, I_39_23, I_39_25, I_39_26, I_39_27, I_39_30, I_39_31, I_39_34, I_39_35, I_39_38, I_39_41, I_39_42, I_39_45, I_39_46, I_39_49, I_39_50, I_39_53, I_39_56, I_39_57, I_39_58, I_39_59, I_39_60, I_39_63, I_39_64, I_39_67, I_39_68, I_39_69, I_39_70, I_39_73, I_39_76, I_39_77, I_39_78, I_39_79, I_39_80, I_39_83, I_39_84, I_39_87, I_39_88, I_39_89, I_39_92, I_39_95, I_39_98, I_39_99, I_39_102, I_39_105, rr_0_0, rr_0_1, rr_0_2, rr_0_3, rr_0_4, rr_0_5, rr_0_6, rr_0_7, rr_0_8, rr_1_0, rr_1_1, rr_1_2, rr_1_3, rr_2_4, rr_2_5, rr_2_6, rr_2_7, rr_2_8, rr_13_0, rr_15_4, rr_15_5, rr_15_6, rr_15_7, rr_15_8, rr_21_4, rr_21_5, rr_21_6, rr_21_7, rr_21_8, rr_27_4, rr_27_5, rr_27_6, rr_27_7, rr_27_8, rr_33_4, rr_33_5, rr_33_6, rr_33_7, rr_33_8, rr_39_4, rr_39_5, rr_39_6, rr_39_7, rr_39_8, rr_45_4, rr_45_5, rr_45_6, rr_45_7, rr_45_8, rr_51_4, rr_51_5, rr_51_6, rr_51_7, rr_51_8, rr_57_4, rr_57_5, rr_57_6, rr_57_7, rr_57_8, rr_63_2, rr_63_3, rr_63_4, rr_63_5, rr_68_0, rr_70_1, rr_70_2, rr_74_4, rr_74_5, rr_74_6, rr_74_7, rr_74_8, rr_80_4, rr_80_5, rr_80_6, rr_80_7, rr_80_8, rr_86_2, rr_88_2, rr_90_2, rr_92_0, rr_92_1, rr_92_5, rr_92_6, rr_92_8, rr_92_9, rr_92_12, rr_92_15, rr_92_16, rr_92_17, y0]
    have go : ∀ k, k ≠ 68 → k ≠ 13 → k ≠ 12 → k < 86 → σ5 k = σ3 k := fun k a1 a2 a3 a4 => by rw [h2 k (by omega), g2 k a3, u2_f a2, u2_f a1]
    refine hk σ5 ⟨?_, Nat.zero_le _, fun i hi => absurd hi (Nat.not_lt_zero _)⟩ ⟨CD_fr f1.1 (fun k a1 a2 => go k (by omega) (by omega) (by omega) (by omega)), CM_fr f1.2 (go 63 (by omega) (by omega) (by omega) (by omega)) (go 64 (by omega) (by omega) (by omega) (by omega))⟩ ?_ (fun k hk2 => ⟨?_, fun z => by cases z⟩) h1 (fun k hk2 => ?_)
    · rw [h2 68 (by omega), g2 68 (by omega), u2_f (by omega), u2_s]
    · obtain ⟨a0, a1, ⟨o, ho, a2, a3⟩, a4⟩ := hP
      refine ⟨Nat.zero_le _, ?_, ⟨o, ho, ?_, fun i hi => absurd hi (Nat.not_lt_zero _)⟩, fun i hi => absurd hi (Nat.not_lt_zero _)⟩
      · rw [h2 13 (by omega), g2 13 (by omega), u2_s]
      · rw [h2 13 (by omega), g2 13 (by omega), u2_i (by omega), u2_f (by omega), f2 13 (by omega) (by omega) (by omega), e4 13 (by omega) (by omega) (by omega) (by omega)]; exact a2
    · rw [h2 12 (by omega)]
      exact g1 k hk2
    · rw [h2 k (by omega), g2 k (by omega), u2_f (by omega), u2_f (by omega), f2 k (by omega) (by omega) (by omega), e4 k (by omega) (by omega) (by omega) (by omega)]
