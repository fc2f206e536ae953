/-! the class's reader -/
theorem c_numbersOf (E : ip_E) {w : Nat} (hw : w < 8) (σ : ip_G) (κ : Option Value → ip_G → Prop) : wp E 34 0 [.int (nI w)] [] σ κ = κ (some (.int (nI (nmC w)))) σ := by
  have h : w = 0 ∨ w = 1 ∨ w = 2 ∨ w = 3 ∨ w = 4 ∨ w = 5 ∨ w = 6 ∨ w = 7 := by omega
  rcases h with rfl | rfl | rfl | rfl | rfl | rfl | rfl | rfl <;> simp (disch := first | assumption | exact bz0 | exact bz1 | exact bzi | omega | decide +kernel) only [I_34_0, I_34_1_c0, I_34_1_c6, I_34_1_c1, I_34_1_c2, I_34_1_c3, I_34_1_c4, I_34_1_c5, I_34_1_c7, I_34_28, I_34_29, I_34_30, I_34_31, I_34_32, I_34_33] <;> rfl
/-- the reader's sizes -/
def RC (σ : ip_G) (R : Nat → Nat) : Prop := (∀ j, j < 4 → σ 70 (3 + j) = nI (R j)) ∧ σ 70 7 = nI (R 4) ∧ (1 ≤ R 4 → σ 70 8 = nI (R 5))
theorem RC_fr {σ σ' : ip_G} {R : Nat → Nat} (h : RC σ R) (hf : ∀ j, 3 ≤ j → j < 9 → σ' 70 j = σ 70 j) : RC σ' R := by
  obtain ⟨h1, h2, h3⟩ := h
  exact ⟨fun j hj => by rw [hf _ (by omega) (by omega)]; exact h1 j hj, by rw [hf _ (by omega) (by omega)]; exact h2, fun z => by rw [hf _ (by omega) (by omega)]; exact h3 z⟩
theorem c_mostOf (E : ip_E) {σ : ip_G} {R : Nat → Nat} (hR : RC σ R) (hW : WR R) {w j : Nat} (hw : w < 6) (hj : j < 4) (κ : Option Value → ip_G → Prop) : wp E 36 0 [.ref 70, .int (nI w), .int (nI j), .retAddr 0] [] σ κ = κ (some (.int (nI (nmH R w j)))) σ := by
  obtain ⟨h1, -, -⟩ := hR
  obtain ⟨w0, -, w1, -, w2, -, w3, -⟩ := hW
  have e0 : σ 70 3 = nI (R 0) := h1 0 (by omega)
  have e1 : σ 70 4 = nI (R 1) := h1 1 (by omega)
  have e2 : σ 70 5 = nI (R 2) := h1 2 (by omega)
  have e3 : σ 70 6 = nI (R 3) := h1 3 (by omega)
  have hj2 : j = 0 ∨ j = 1 ∨ j = 2 ∨ j = 3 := by omega
  have h : w = 0 ∨ w = 1 ∨ w = 2 ∨ w = 3 ∨ w = 4 ∨ w = 5 := by omega
  rcases h with rfl | rfl | rfl | rfl | rfl | rfl <;> rcases hj2 with rfl | rfl | rfl | rfl <;> simp (disch := first | assumption | exact bz0 | exact bz1 | exact bzi | omega | decide +kernel) only [I_36_0, I_36_1, I_36_4, I_36_5, I_36_8, I_36_9, I_36_10, I_36_11_c0, I_36_11_c1, I_36_11_c2, I_36_11_c3, I_36_11_c4, I_36_11_d, I_36_44, I_36_45, I_36_46, I_36_49, I_36_51, I_36_54, I_36_56, I_36_57, I_36_58, I_36_61, I_36_62, I_36_65, I_36_66, I_36_67, I_36_70, I_36_71, I_36_74, I_36_75, I_36_76, I_36_77, I_36_78, I_36_81, I_36_82, I_36_85, I_36_86, I_36_87, I_36_90, I_36_91, I_36_94, I_36_95, I_36_96, I_36_97, I_36_98, I_36_101, I_36_102, I_36_105, I_36_106, I_36_107, I_36_110, I_36_111, I_36_114, I_36_115, I_36_116, I_36_117, I_36_118, I_36_121, I_36_122, I_36_125, I_36_126, I_36_127, I_36_130, I_36_132, I_36_133, I_36_134, I_36_137, I_36_138, I_36_141, I_36_142, I_36_143, I_36_146, I_36_148, z00, nz1, show ¬ nI 2 = 0 by decide +kernel, show ¬ nI 3 = 0 by decide +kernel, not_true_eq_false, not_false_eq_true, ↓reduceIte, e0, e1, e2, e3, pk_sub w0, pk_sub w1, pk_sub w2, pk_sub w3, show ¬ nI 2 ≤ nI 0 by decide +kernel, show ¬ nI 2 ≤ nI 1 by decide +kernel, show nI 2 ≤ nI 2 by decide +kernel, show nI 2 ≤ nI 3 by decide +kernel] <;> rfl
theorem c_setNumber (E : ip_E) {σ : ip_G} {i j : Nat} (h0 : σ 70 0 = nI i) (hi : i < 24) (hj : j < 4) (x : Int32) (κ : Option Value → ip_G → Prop) : wp E 32 0 [.ref 70, .int (nI j), .int x] [] σ κ = κ none (ip_u2 σ 72 (i * 4 + j) x) := by
  simp (disch := first | assumption | exact bz0 | exact bz1 | exact bzi | omega | decide +kernel) only [I_32_0, I_32_1, I_32_4, I_32_5, I_32_8, I_32_9, I_32_10, I_32_11, I_32_12, I_32_13, I_32_14, rr_0_0, rr_0_1, rr_0_2, rr_0_3, rr_0_4, rr_0_5, rr_0_6, rr_0_7, rr_0_8, rr_1_0, rr_1_1, rr_1_2, rr_1_3, rr_2_4, rr_2_5, rr_2_6, rr_2_7, rr_2_8, rr_13_0, rr_15_4, rr_15_5, rr_15_6, rr_15_7, rr_15_8, rr_21_4, rr_21_5, rr_21_6, rr_21_7, rr_21_8, rr_27_4, rr_27_5, rr_27_6, rr_27_7, rr_27_8, rr_33_4, rr_33_5, rr_33_6, rr_33_7, rr_33_8, rr_39_4, rr_39_5, rr_39_6, rr_39_7, rr_39_8, rr_45_4, rr_45_5, rr_45_6, rr_45_7, rr_45_8, rr_51_4, rr_51_5, rr_51_6, rr_51_7, rr_51_8, rr_57_4, rr_57_5, rr_57_6, rr_57_7, rr_57_8, rr_63_2, rr_63_3, rr_63_4, rr_63_5, rr_68_0, rr_70_1, rr_70_2, rr_74_4, rr_74_5, rr_74_6, rr_74_7, rr_74_8, rr_80_4, rr_80_5, rr_80_6, rr_80_7, rr_80_8, rr_86_2, rr_88_2, rr_90_2, rr_92_0, rr_92_1, rr_92_5, rr_92_6, rr_92_8, rr_92_9, rr_92_12, rr_92_15, rr_92_16, rr_92_17, h0, pk_mul, nI_add]
theorem c_rnumber (E : ip_E) {σ : ip_G} {i j : Nat} (hi : i < 24) (hj : j < 4) (κ : Option Value → ip_G → Prop) : wp E 37 0 [.ref 70, .int (nI i), .int (nI j)] [] σ κ = κ (some (.int (σ 72 (i * 4 + j)))) σ := by
  simp (disch := first | assumption | exact bz0 | exact bz1 | exact bzi | omega | decide +kernel) only [I_37_0, I_37_1, I_37_4, I_37_5, I_37_6, I_37_7, I_37_8, I_37_9, I_37_10, rr_0_0, rr_0_1, rr_0_2, rr_0_3, rr_0_4, rr_0_5, rr_0_6, rr_0_7, rr_0_8, rr_1_0, rr_1_1, rr_1_2, rr_1_3, rr_2_4, rr_2_5, rr_2_6, rr_2_7, rr_2_8, rr_13_0, rr_15_4, rr_15_5, rr_15_6, rr_15_7, rr_15_8, rr_21_4, rr_21_5, rr_21_6, rr_21_7, rr_21_8, rr_27_4, rr_27_5, rr_27_6, rr_27_7, rr_27_8, rr_33_4, rr_33_5, rr_33_6, rr_33_7, rr_33_8, rr_39_4, rr_39_5, rr_39_6, rr_39_7, rr_39_8, rr_45_4, rr_45_5, rr_45_6, rr_45_7, rr_45_8, rr_51_4, rr_51_5, rr_51_6, rr_51_7, rr_51_8, rr_57_4, rr_57_5, rr_57_6, rr_57_7, rr_57_8, rr_63_2, rr_63_3, rr_63_4, rr_63_5, rr_68_0, rr_70_1, rr_70_2, rr_74_4, rr_74_5, rr_74_6, rr_74_7, rr_74_8, rr_80_4, rr_80_5, rr_80_6, rr_80_7, rr_80_8, rr_86_2, rr_88_2, rr_90_2, rr_92_0, rr_92_1, rr_92_5, rr_92_6, rr_92_8, rr_92_9, rr_92_12, rr_92_15, rr_92_16, rr_92_17, pk_mul, nI_add]
/-- where the reading is, or where it ended -/
def tO (σ : ip_G) (n : Nat) (T : Nat → Nat) (b : Bool) (p : Nat) : Prop := CT σ n T ∧ p ≤ n ∧ (if b = true then σ 68 3 = nI p else σ 68 2 = nI (ts n T p))
theorem tO_fr {σ σ' : ip_G} {n : Nat} {T : Nat → Nat} {b : Bool} {p : Nat} (h : tO σ n T b p) (h1 : σ' 68 = σ 68) (h2 : σ' 69 = σ 69) : tO σ' n T b p := by
  obtain ⟨a, b, c⟩ := h
  refine ⟨CT_fr a (by rw [h1]) h2, b, ?_⟩
  rw [h1]
  exact c
/-- the reader's lists are kept below i -/
def frR (σ σ' : ip_G) (i : Nat) : Prop := (∀ k, k ≠ 68 → k ≠ 70 → k ≠ 71 → k ≠ 72 → σ' k = σ k) ∧ (∀ a, a < i → σ' 71 a = σ 71 a) ∧ (∀ a, a < i * 4 → σ' 72 a = σ 72 a)
theorem frR_r (σ : ip_G) (i : Nat) : frR σ σ i := ⟨fun _ _ _ _ _ => rfl, fun _ _ => rfl, fun _ _ => rfl⟩
theorem frR_t {a b c : ip_G} {i : Nat} (h : frR a b i) (g : frR b c i) : frR a c i := ⟨fun k x y z u => by rw [g.1 k x y z u, h.1 k x y z u], fun k z => by rw [g.2.1 k z, h.2.1 k z], fun k z => by rw [g.2.2 k z, h.2.2 k z]⟩
theorem frR_m {a b : ip_G} {i j : Nat} (h : frR a b j) (hij : i ≤ j) : frR a b i := ⟨h.1, fun k z => h.2.1 k (by omega), fun k z => h.2.2 k (by omega)⟩
theorem L_readNumbers (E : ip_E) {σ : ip_G} {n : Nat} {T : Nat → Nat} {R : Nat → Nat} {w i : Nat} (hW : WR R) (hw : w < 7) (hi : i < 24) (κ : Option Value → ip_G → Prop) : ∀ (m j p : Nat) (N : Nat → Nat) (v : Value) (σ' : ip_G), j + m = nmC w → CT σ' n T → σ' 68 3 = nI p → p ≤ n → RC σ' R → σ' 70 0 = nI i → (∀ a, a < j → σ' 72 (i * 4 + a) = nI (N a)) → (∀ k, k ≠ 68 → k ≠ 72 → σ' k = σ k) → (∀ a, a < i * 4 → σ' 72 a = σ 72 a) → (∀ b p2 N2 σ2, rn n T (nmL w) (nmH R w) m j p N = (b, p2, N2) → tO σ2 n T b p2 → (b = true → ∀ a, a < nmC w → σ2 72 (i * 4 + a) = nI (N2 a)) → (∀ k, k ≠ 68 → k ≠ 72 → σ2 k = σ k) → (∀ a, a < i * 4 → σ2 72 a = σ 72 a) → κ (some (.int (nI (b2n b)))) σ2) → wp E 33 13 [.ref 70, .ref 68, .int (nI w), .int (nI (nmL w)), .int (nI j), v] [] σ' κ := by
  have h4 : nmC w ≤ 4 := by
    unfold nmC
    split
    · omega
    · split <;> omega
  intro m
  induction m with
  | zero =>
    intro j p N v σ' hj hT hp hpn hR h0 hN hf hg hk
    have hc : nI (nmC w) ≤ nI j := nI_le (by omega) (by omega)
    simp (disch := first | assumption | exact bz0 | exact bz1 | exact bzi | omega | decide +kernel) only [I_33_0, I_33_1, I_33_4, I_33_5, I_33_8, I_33_9, I_33_10, I_33_11, I_33_13, I_33_15, I_33_16, I_33_19, I_33_22, I_33_23, I_33_26, I_33_27, I_33_30, I_33_32, I_33_34, I_33_35, I_33_38, I_33_40, I_33_41, I_33_42, I_33_44, I_33_47, I_33_50, I_33_51, I_33_52, I_33_53, I_33_55, I_33_57, I_33_60, I_33_63, I_33_66, I_33_67, c_numbersOf E (show w < 8 by omega), Option.toList_some, List.cons_append, List.nil_append, hc, ↓reduceIte]
    have := hk true p N σ' rfl ⟨hT, hpn, hp⟩ (fun _ a ha => hN a (by omega)) hf hg
    exact this
  | succ m ih =>
    intro j p N v σ' hj hT hp hpn hR h0 hN hf hg hk
    have hc : ¬ nI (nmC w) ≤ nI j := nI_ge (by omega) (by omega)
    have hw6 : w < 6 := by
      have : ¬ w = 6 := fun z => by rw [z] at hj; have : nmC 6 = 0 := rfl; omega
      omega
    have ht := te_le (T := T) hpn
    rw [I_33_13]
    simp (disch := first | assumption | exact bz0 | exact bz1 | exact bzi | omega | decide +kernel) only [I_33_0, I_33_1, I_33_4, I_33_5, I_33_8, I_33_9, I_33_10, I_33_11, I_33_15, I_33_16, I_33_19, I_33_22, I_33_23, I_33_26, I_33_27, I_33_30, I_33_32, I_33_34, I_33_35, I_33_38, I_33_40, I_33_41, I_33_42, I_33_44, I_33_47, I_33_50, I_33_51, I_33_52, I_33_53, I_33_55, I_33_57, I_33_60, I_33_63, I_33_66, I_33_67, c_numbersOf E (show w < 8 by omega), Option.toList_some, List.cons_append, List.nil_append, hc, ↓reduceIte]
    refine c_goOn E hT hp hpn _ (fun σ2 g1 g2 => ?_)
    have g1' : TX σ2 n T (ts n T p) (te n T p) := g1
    have hn : n ≤ 200 := hT.2.1
    have hR2 : RC σ2 R := RC_fr hR (fun j _ _ => by rw [g2 70 (by omega)])
    simp (disch := first | assumption | exact bz0 | exact bz1 | exact bzi | omega | decide +kernel) only [I_33_0, I_33_1, I_33_4, I_33_5, I_33_8, I_33_9, I_33_10, I_33_11, I_33_15, I_33_16, I_33_19, I_33_22, I_33_23, I_33_26, I_33_27, I_33_30, I_33_32, I_33_34, I_33_35, I_33_38, I_33_40, I_33_41, I_33_42, I_33_44, I_33_47, I_33_50, I_33_51, I_33_52, I_33_53, I_33_55, I_33_57, I_33_60, I_33_63, I_33_66, I_33_67, c_number E g1' rfl (show ts n T p ≤ n by omega), Option.toList_some, List.cons_append, List.nil_append, Option.toList_none]
    have hl1 : nmL w ≤ 1 := by unfold nmL; split <;> omega
    cases hb : nuB n T (ts n T p) (te n T p) with
    | false =>
      have hm : (-1 : Int32) < nI (nmL w) := by
        have h : nmL w = 0 ∨ nmL w = 1 := by omega
        rcases h with h | h <;> rw [h] <;> decide +kernel
      simp (disch := first | assumption | exact bz0 | exact bz1 | exact bzi | omega | decide +kernel) only [I_33_0, I_33_1, I_33_4, I_33_5, I_33_8, I_33_9, I_33_10, I_33_11, I_33_15, I_33_16, I_33_19, I_33_22, I_33_23, I_33_26, I_33_27, I_33_30, I_33_32, I_33_34, I_33_35, I_33_38, I_33_40, I_33_41, I_33_42, I_33_44, I_33_47, I_33_50, I_33_51, I_33_52, I_33_53, I_33_55, I_33_57, I_33_60, I_33_63, I_33_66, I_33_67, Bool.false_eq_true, ↓reduceIte, hm]
      have hr : rn n T (nmL w) (nmH R w) (m + 1) j p N = (false, p, N) := by
        unfold rn
        rw [if_neg (by unfold nuO; rw [hb]; simp)]
      refine hk false p N σ2 hr ⟨g1.1, hpn, g1.2.1⟩ (fun z => by cases z) (fun k h1 h2 => by rw [g2 k h1]; exact hf k h1 h2) (fun a ha => by rw [g2 72 (by omega)]; exact hg a ha)
    | true =>
      simp (disch := first | assumption | exact bz0 | exact bz1 | exact bzi | omega | decide +kernel) only [I_33_0, I_33_1, I_33_4, I_33_5, I_33_8, I_33_9, I_33_10, I_33_11, I_33_15, I_33_16, I_33_19, I_33_22, I_33_23, I_33_26, I_33_27, I_33_30, I_33_32, I_33_34, I_33_35, I_33_38, I_33_40, I_33_41, I_33_42, I_33_44, I_33_47, I_33_50, I_33_51, I_33_52, I_33_53, I_33_55, I_33_57, I_33_60, I_33_63, I_33_66, I_33_67, ↓reduceIte]
      have hv : nuV T (ts n T p) (te n T p) ≤ 99 := by
        unfold nuB at hb
        rw [decide_eq_true_eq] at hb
        refine vF_dig (fun a h1 h2 => ?_) hb.2 ht.1
        have q := tk_lt (show tk n T (ts n T p) ≠ 0 by omega)
        rw [enS_kd h1 h2, ← q.2]
        exact hb.1
      by_cases hlo : nmL w ≤ nuV T (ts n T p) (te n T p)
      · have q1 : ¬ nI (nuV T (ts n T p) (te n T p)) < nI (nmL w) := nI_nlt hlo (by omega)
        have hh : nmH R w j ≤ 12 := by
          unfold nmH
          obtain ⟨a0, b0, a1, b1, a2, b2, a3, b3, -⟩ := hW
          repeat' split
          all_goals omega
        by_cases hhi : nuV T (ts n T p) (te n T p) ≤ nmH R w j
        · have q2 : nI (nuV T (ts n T p) (te n T p)) ≤ nI (nmH R w j) := nI_le hhi (by omega)
          have hr : rn n T (nmL w) (nmH R w) (m + 1) j p N = rn n T (nmL w) (nmH R w) m (j + 1) (te n T p) (setD N j (nuW n T p)) := by
            show (if nuO n T p (nmL w) (nmH R w j) = true then _ else _) = _
            rw [if_pos (by unfold nuO; rw [hb, Bool.true_and]; exact decide_eq_true ⟨hlo, hhi⟩)]
          have z0 : σ2 70 0 = nI i := by rw [g2 70 (by omega)]; exact h0
          simp (disch := first | assumption | exact bz0 | exact bz1 | exact bzi | omega | decide +kernel) only [I_33_0, I_33_1, I_33_4, I_33_5, I_33_8, I_33_9, I_33_10, I_33_11, I_33_15, I_33_16, I_33_19, I_33_22, I_33_23, I_33_26, I_33_27, I_33_30, I_33_32, I_33_34, I_33_35, I_33_38, I_33_40, I_33_41, I_33_42, I_33_44, I_33_47, I_33_50, I_33_51, I_33_52, I_33_53, I_33_55, I_33_57, I_33_60, I_33_63, I_33_66, I_33_67, q1, ↓reduceIte, c_mostOf E hR2 hW hw6 (show j < 4 by omega), Option.toList_some, List.cons_append, List.nil_append, q2, c_setNumber E z0 hi (show j < 4 by omega), Option.toList_none, nI_add]
          rw [hr] at hk
          refine ih (j + 1) (te n T p) (setD N j (nuW n T p)) _ _ (by omega) (CT_fr g1.1 (by rw [u2_f (by omega)]) (by rw [u2_f (by omega)])) (by rw [u2_k (by omega)]; exact g1.2.2.1) ht.2.1 (RC_fr hR2 (fun _ _ _ => by rw [u2_k (by omega)])) (by rw [u2_k (by omega)]; exact z0) (fun a ha => ?_) (fun k h1 h2 => by rw [u2_f h2, g2 k h1]; exact hf k h1 h2) (fun a ha => by rw [u2_i (by omega), g2 72 (by omega)]; exact hg a ha) hk
          by_cases e : a = j
          · rw [e, u2_s, setD_s]; rfl
          · rw [u2_i (by omega), setD_n e, g2 72 (by omega)]; exact hN a (by omega)
        · have q2 : ¬ nI (nuV T (ts n T p) (te n T p)) ≤ nI (nmH R w j) := nI_ge (by omega) (by omega)
          simp (disch := first | assumption | exact bz0 | exact bz1 | exact bzi | omega | decide +kernel) only [I_33_0, I_33_1, I_33_4, I_33_5, I_33_8, I_33_9, I_33_10, I_33_11, I_33_15, I_33_16, I_33_19, I_33_22, I_33_23, I_33_26, I_33_27, I_33_30, I_33_32, I_33_34, I_33_35, I_33_38, I_33_40, I_33_41, I_33_42, I_33_44, I_33_47, I_33_50, I_33_51, I_33_52, I_33_53, I_33_55, I_33_57, I_33_60, I_33_63, I_33_66, I_33_67, q1, ↓reduceIte, c_mostOf E hR2 hW hw6 (show j < 4 by omega), Option.toList_some, List.cons_append, List.nil_append, q2]
          have hr : rn n T (nmL w) (nmH R w) (m + 1) j p N = (false, p, N) := by
            unfold rn
            rw [if_neg (by unfold nuO; rw [hb, Bool.true_and, decide_eq_true_eq]; exact fun z => hhi z.2)]
          refine hk false p N σ2 hr ⟨g1.1, hpn, g1.2.1⟩ (fun z => by cases z) (fun k h1 h2 => by rw [g2 k h1]; exact hf k h1 h2) (fun a ha => by rw [g2 72 (by omega)]; exact hg a ha)
      · have q1 : nI (nuV T (ts n T p) (te n T p)) < nI (nmL w) := nI_lt (by omega) (by omega)
        simp (disch := first | assumption | exact bz0 | exact bz1 | exact bzi | omega | decide +kernel) only [I_33_0, I_33_1, I_33_4, I_33_5, I_33_8, I_33_9, I_33_10, I_33_11, I_33_15, I_33_16, I_33_19, I_33_22, I_33_23, I_33_26, I_33_27, I_33_30, I_33_32, I_33_34, I_33_35, I_33_38, I_33_40, I_33_41, I_33_42, I_33_44, I_33_47, I_33_50, I_33_51, I_33_52, I_33_53, I_33_55, I_33_57, I_33_60, I_33_63, I_33_66, I_33_67, q1, ↓reduceIte]
        have hr : rn n T (nmL w) (nmH R w) (m + 1) j p N = (false, p, N) := by
          unfold rn
          rw [if_neg (by unfold nuO; rw [hb, Bool.true_and, decide_eq_true_eq]; exact fun z => hlo z.1)]
        refine hk false p N σ2 hr ⟨g1.1, hpn, g1.2.1⟩ (fun z => by cases z) (fun k h1 h2 => by rw [g2 k h1]; exact hf k h1 h2) (fun a ha => by rw [g2 72 (by omega)]; exact hg a ha)
theorem c_readNumbers (E : ip_E) {σ : ip_G} {n : Nat} {T : Nat → Nat} {R : Nat → Nat} {w i p : Nat} (hW : WR R) (hw : w < 7) (hi : i < 24) (hT : CT σ n T) (hp : σ 68 3 = nI p) (hpn : p ≤ n) (hR : RC σ R) (h0 : σ 70 0 = nI i) (κ : Option Value → ip_G → Prop) (hk : ∀ b p2 N2 σ2, rn n T (nmL w) (nmH R w) (nmC w) 0 p (fun _ => 0) = (b, p2, N2) → tO σ2 n T b p2 → (b = true → ∀ a, a < nmC w → σ2 72 (i * 4 + a) = nI (N2 a)) → (∀ k, k ≠ 68 → k ≠ 72 → σ2 k = σ k) → (∀ a, a < i * 4 → σ2 72 a = σ 72 a) → κ (some (.int (nI (b2n b)))) σ2) : wp E 33 0 [.ref 70, .ref 68, .int (nI w), .retAddr 0, .retAddr 0, .retAddr 0] [] σ κ := by
  have fin := L_readNumbers E (σ := σ) (n := n) (T := T) hW hw hi κ (nmC w) 0 p (fun _ => 0) (.retAddr 0) σ (by omega) hT hp hpn hR h0 (fun a ha => absurd ha (by omega)) (fun _ _ _ => rfl) (fun _ _ => rfl) hk
  by_cases h : w = 0
  · subst h
    simp (disch := first | assumption | exact bz0 | exact bz1 | exact bzi | omega | decide +kernel) only [I_33_0, I_33_1, I_33_4, I_33_5, I_33_8, I_33_9, I_33_10, I_33_11, I_33_15, I_33_16, I_33_19, I_33_22, I_33_23, I_33_26, I_33_27, I_33_30, I_33_32, I_33_34, I_33_35, I_33_38, I_33_40, I_33_41, I_33_42, I_33_44, I_33_47, I_33_50, I_33_51, I_33_52, I_33_53, I_33_55, I_33_57, I_33_60, I_33_63, I_33_66, I_33_67, ip_nI0, not_true_eq_false, ↓reduceIte]
    exact fin
  · have hq : ¬ nI w = 0 := fun z => h ((nI_eq (by omega) (by omega)).mp (z.trans ip_nI0.symm))
    have e0 : nmL w = 0 := if_neg h
    rw [e0] at fin
    simp (disch := first | assumption | exact bz0 | exact bz1 | exact bzi | omega | decide +kernel) only [I_33_0, I_33_1, I_33_4, I_33_5, I_33_8, I_33_9, I_33_10, I_33_11, I_33_15, I_33_16, I_33_19, I_33_22, I_33_23, I_33_26, I_33_27, I_33_30, I_33_32, I_33_34, I_33_35, I_33_38, I_33_40, I_33_41, I_33_42, I_33_44, I_33_47, I_33_50, I_33_51, I_33_52, I_33_53, I_33_55, I_33_57, I_33_60, I_33_63, I_33_66, I_33_67, hq, not_false_eq_true, ↓reduceIte]
    exact fin
theorem c_readRow (E : ip_E) {σ : ip_G} {n : Nat} {T : Nat → Nat} {R : Nat → Nat} {i p : Nat} (hW : WR R) (hr4 : R 4 < 12) (hi : i < 24) (hT : CT σ n T) (hp : σ 68 3 = nI p) (hpn : p ≤ n) (hR : RC σ R) (h0 : σ 70 0 = nI i) (κ : Option Value → ip_G → Prop) (hk : ∀ b p2 N2 σ2, clR n T R 7 p = (b, p2, N2) → tO σ2 n T b p2 → (b = true → (∀ a, a < 2 → σ2 72 (i * 4 + a) = nI (N2 a)) ∧ RC σ2 (nxR R 7 N2)) → σ2 70 0 = nI i → (∀ k, k ≠ 68 → k ≠ 70 → k ≠ 72 → σ2 k = σ k) → (∀ a, a < i * 4 → σ2 72 a = σ 72 a) → κ (some (.int (nI (b2n b)))) σ2) : wp E 29 0 [.ref 70, .ref 68] [] σ κ := by
  simp (disch := first | assumption | exact bz0 | exact bz1 | exact bzi | omega | decide +kernel) only [I_29_0, I_29_1, I_29_4, I_29_5, I_29_8, I_29_11, I_29_12, I_29_15, I_29_18, I_29_19, I_29_22, I_29_23, I_29_26, I_29_29, I_29_30, I_29_32, I_29_33, I_29_36, I_29_39, I_29_40, I_29_41, I_29_44, I_29_45, I_29_46, I_29_49, I_29_50, I_29_51, I_29_52, I_29_55, I_29_58, I_29_59, I_29_60, I_29_61, I_29_64, I_29_67, I_29_68]
  refine c_goOn E hT hp hpn _ (fun σ2 g1 g2 => ?_)
  have g1' : TX σ2 n T (ts n T p) (te n T p) := g1
  have ht := te_le (T := T) hpn
  have hn : n ≤ 200 := hT.2.1
  have hR2 : RC σ2 R := RC_fr hR (fun j _ _ => by rw [g2 70 (by omega)])
  have z0 : σ2 70 0 = nI i := by rw [g2 70 (by omega)]; exact h0
  have f1 : ∀ k, k ≠ 68 → k ≠ 70 → k ≠ 72 → σ2 k = σ k := fun k h1 _ _ => g2 k h1
  have f2 : ∀ a, a < i * 4 → σ2 72 a = σ 72 a := fun a _ => by rw [g2 72 (by omega)]
  simp (disch := first | assumption | exact bz0 | exact bz1 | exact bzi | omega | decide +kernel) only [I_29_0, I_29_1, I_29_4, I_29_5, I_29_8, I_29_11, I_29_12, I_29_15, I_29_18, I_29_19, I_29_22, I_29_23, I_29_26, I_29_29, I_29_30, I_29_32, I_29_33, I_29_36, I_29_39, I_29_40, I_29_41, I_29_44, I_29_45, I_29_46, I_29_49, I_29_50, I_29_51, I_29_52, I_29_55, I_29_58, I_29_59, I_29_60, I_29_61, I_29_64, I_29_67, I_29_68, c_isRow E g1' ht.1 ht.2.1, Option.toList_some, List.cons_append, List.nil_append, Option.toList_none]
  cases hb : rowB n T (ts n T p) (te n T p) with
  | false =>
    simp (disch := first | assumption | exact bz0 | exact bz1 | exact bzi | omega | decide +kernel) only [I_29_0, I_29_1, I_29_4, I_29_5, I_29_8, I_29_11, I_29_12, I_29_15, I_29_18, I_29_19, I_29_22, I_29_23, I_29_26, I_29_29, I_29_30, I_29_31, I_29_32, I_29_33, I_29_36, I_29_39, I_29_40, I_29_41, I_29_44, I_29_45, I_29_46, I_29_49, I_29_50, I_29_51, I_29_52, I_29_55, I_29_58, I_29_59, I_29_60, I_29_61, I_29_64, I_29_67, I_29_68, nb0, ↓reduceIte]
    have hc : clR n T R 7 p = (false, p, fun _ => 0) := by
      unfold clR
      rw [if_pos rfl, if_neg (by unfold rwO; rw [hb]; simp)]
    exact hk false p _ σ2 hc ⟨g1.1, hpn, g1.2.1⟩ (fun z => by cases z) z0 f1 f2
  | true =>
    have h12 : te n T p - ts n T p ≤ 12 := by
      unfold rowB at hb
      split at hb
      · next h => exact h.2
      · cases hb
    have good : (R 4 = 0 ∨ te n T p - ts n T p = R 5) → wp E 29 31 [.ref 70, .ref 68] [] σ2 κ := by
      intro hor
      have hc : clR n T R 7 p = (true, te n T p, rwN n T p) := by
        unfold clR
        rw [if_pos rfl, if_pos (by unfold rwO; rw [hb, Bool.true_and]; exact decide_eq_true hor)]
      have y7 : σ2 70 7 = nI (R 4) := hR2.2.1
      have tx2 : TX (ip_u2 (ip_u2 σ2 70 8 (nI (te n T p - ts n T p))) 70 7 (nI (R 4 + 1))) n T (ts n T p) (te n T p) := by
        obtain ⟨t0, t1, t2, t3⟩ := g1'
        exact ⟨CT_fr t0 (by rw [u2_f (by omega), u2_f (by omega)]) (by rw [u2_f (by omega), u2_f (by omega)]), by rw [u2_f (by omega), u2_f (by omega)]; exact t1, by rw [u2_f (by omega), u2_f (by omega)]; exact t2, by rw [u2_f (by omega), u2_f (by omega)]; exact t3⟩
      have w0 : (ip_u2 (ip_u2 σ2 70 8 (nI (te n T p - ts n T p))) 70 7 (nI (R 4 + 1))) 70 0 = nI i := by rw [u2_i (by omega), u2_i (by omega)]; exact z0
      simp (disch := first | assumption | exact bz0 | exact bz1 | exact bzi | omega | decide +kernel) only [I_29_0, I_29_1, I_29_4, I_29_5, I_29_8, I_29_11, I_29_12, I_29_15, I_29_18, I_29_19, I_29_22, I_29_23, I_29_26, I_29_29, I_29_30, I_29_31, I_29_32, I_29_33, I_29_36, I_29_39, I_29_40, I_29_41, I_29_44, I_29_45, I_29_46, I_29_49, I_29_50, I_29_51, I_29_52, I_29_55, I_29_58, I_29_59, I_29_60, I_29_61, I_29_64, I_29_67, I_29_68, c_size E g1' ht.1, Option.toList_some, List.cons_append, List.nil_append, u2_i, y7, nI_add, c_crosses E tx2 ht.1 ht.2.1 h12, c_setNumber E w0 hi (show 0 < 4 by omega), Option.toList_none]
      have w1 : (ip_u2 (ip_u2 (ip_u2 σ2 70 8 (nI (te n T p - ts n T p))) 70 7 (nI (R 4 + 1))) 72 (i * 4 + 0) (nI (bits (cbF T (ts n T p)) (te n T p - ts n T p)))) 70 0 = nI i := by rw [u2_k (by omega)]; exact w0
      have w8 : (ip_u2 (ip_u2 (ip_u2 σ2 70 8 (nI (te n T p - ts n T p))) 70 7 (nI (R 4 + 1))) 72 (i * 4 + 0) (nI (bits (cbF T (ts n T p)) (te n T p - ts n T p)))) 70 8 = nI (te n T p - ts n T p) := by rw [u2_k (by omega), u2_i (by omega), u2_s]
      simp (disch := first | assumption | exact bz0 | exact bz1 | exact bzi | omega | decide +kernel) only [I_29_0, I_29_1, I_29_4, I_29_5, I_29_8, I_29_11, I_29_12, I_29_15, I_29_18, I_29_19, I_29_22, I_29_23, I_29_26, I_29_29, I_29_30, I_29_31, I_29_32, I_29_33, I_29_36, I_29_39, I_29_40, I_29_41, I_29_44, I_29_45, I_29_46, I_29_49, I_29_50, I_29_51, I_29_52, I_29_55, I_29_58, I_29_59, I_29_60, I_29_61, I_29_64, I_29_67, I_29_68, w8, c_setNumber E w1 hi (show 1 < 4 by omega), Option.toList_none, Option.toList_some, List.cons_append, List.nil_append]
      refine hk true _ _ _ hc ⟨CT_fr g1.1 (by rw [u2_f (by omega), u2_f (by omega), u2_f (by omega), u2_f (by omega)]) (by rw [u2_f (by omega), u2_f (by omega), u2_f (by omega), u2_f (by omega)]), ht.2.1, ?_⟩ (fun _ => ⟨fun a ha => ?_, fun j hj => ?_, ?_, fun _ => ?_⟩) ?_ (fun k h1 h2 h3 => ?_) (fun a ha => ?_)
      · show _ = _
        rw [u2_f (by omega), u2_f (by omega), u2_f (by omega), u2_f (by omega)]; exact g1.2.2.1
      · have : a = 0 ∨ a = 1 := by omega
        rcases this with rfl | rfl
        · rw [u2_i (by omega), u2_s]; rfl
        · rw [u2_s]; rfl
      · rw [u2_k (by omega), u2_k (by omega), u2_i (by omega), u2_i (by omega)]
        show _ = nI (if j < 4 then R j else if j = 4 then R 4 + 1 else rwN n T p 1)
        rw [if_pos hj]; exact hR2.1 j hj
      · rw [u2_k (by omega), u2_k (by omega), u2_s]; rfl
      · rw [u2_k (by omega), u2_k (by omega), u2_i (by omega), u2_s]; rfl
      · rw [u2_k (by omega)]; exact w1
      · rw [u2_f h3, u2_f h3, u2_f h2, u2_f h2]; exact f1 k h1 h2 h3
      · rw [u2_i (by omega), u2_i (by omega), u2_k (by omega), u2_k (by omega)]; exact f2 a ha
    simp (disch := first | assumption | exact bz0 | exact bz1 | exact bzi | omega | decide +kernel) only [I_29_0, I_29_1, I_29_4, I_29_5, I_29_8, I_29_11, I_29_12, I_29_15, I_29_18, I_29_19, I_29_22, I_29_23, I_29_26, I_29_29, I_29_30, I_29_32, I_29_33, I_29_36, I_29_39, I_29_40, I_29_41, I_29_44, I_29_45, I_29_46, I_29_49, I_29_50, I_29_51, I_29_52, I_29_55, I_29_58, I_29_59, I_29_60, I_29_61, I_29_64, I_29_67, I_29_68, nb1, ↓reduceIte, hR2.2.1]
    by_cases h4 : R 4 = 0
    · have q : nI (R 4) ≤ 0 := by rw [h4]; decide +kernel
      simp (disch := first | assumption | exact bz0 | exact bz1 | exact bzi | omega | decide +kernel) only [I_29_0, I_29_1, I_29_4, I_29_5, I_29_8, I_29_11, I_29_12, I_29_15, I_29_18, I_29_19, I_29_22, I_29_23, I_29_26, I_29_29, I_29_30, I_29_32, I_29_33, I_29_36, I_29_39, I_29_40, I_29_41, I_29_44, I_29_45, I_29_46, I_29_49, I_29_50, I_29_51, I_29_52, I_29_55, I_29_58, I_29_59, I_29_60, I_29_61, I_29_64, I_29_67, I_29_68, q, ↓reduceIte]
      exact good (Or.inl h4)
    · have q : ¬ nI (R 4) ≤ 0 := by
        have := nI_ge (a := 0) (b := R 4) (by omega) (by omega)
        rw [ip_nI0] at this
        exact this
      have y8 : σ2 70 8 = nI (R 5) := hR2.2.2 (by omega)
      obtain ⟨-, -, -, -, -, -, -, -, -, hw5⟩ := hW
      by_cases h5 : te n T p - ts n T p = R 5
      · have q5 : nI (te n T p - ts n T p) = nI (R 5) := by rw [h5]
        simp (disch := first | assumption | exact bz0 | exact bz1 | exact bzi | omega | decide +kernel) only [I_29_0, I_29_1, I_29_4, I_29_5, I_29_8, I_29_11, I_29_12, I_29_15, I_29_18, I_29_19, I_29_22, I_29_23, I_29_26, I_29_29, I_29_30, I_29_32, I_29_33, I_29_36, I_29_39, I_29_40, I_29_41, I_29_44, I_29_45, I_29_46, I_29_49, I_29_50, I_29_51, I_29_52, I_29_55, I_29_58, I_29_59, I_29_60, I_29_61, I_29_64, I_29_67, I_29_68, q, ↓reduceIte, c_size E g1' ht.1, Option.toList_some, List.cons_append, List.nil_append, y8, q5]
        exact good (Or.inr h5)
      · have q5 : ¬ nI (te n T p - ts n T p) = nI (R 5) := fun z => h5 ((nI_eq (by omega) (by omega)).mp z)
        simp (disch := first | assumption | exact bz0 | exact bz1 | exact bzi | omega | decide +kernel) only [I_29_0, I_29_1, I_29_4, I_29_5, I_29_8, I_29_11, I_29_12, I_29_15, I_29_18, I_29_19, I_29_22, I_29_23, I_29_26, I_29_29, I_29_30, I_29_32, I_29_33, I_29_36, I_29_39, I_29_40, I_29_41, I_29_44, I_29_45, I_29_46, I_29_49, I_29_50, I_29_51, I_29_52, I_29_55, I_29_58, I_29_59, I_29_60, I_29_61, I_29_64, I_29_67, I_29_68, q, ↓reduceIte, c_size E g1' ht.1, Option.toList_some, List.cons_append, List.nil_append, y8, q5]
        have hc : clR n T R 7 p = (false, p, fun _ => 0) := by
          unfold clR
          rw [if_pos rfl, if_neg (by unfold rwO; rw [hb, Bool.true_and, decide_eq_true_eq]; rintro (z | z) <;> contradiction)]
        exact hk false p _ σ2 hc ⟨g1.1, hpn, g1.2.1⟩ (fun z => by cases z) z0 f1 f2
