/-! tokens -/
def kd (x : Nat) : Nat := if 97 ≤ x ∧ x ≤ 122 then 1 else if 48 ≤ x ∧ x ≤ 57 then 2 else 3
def skF (T : Nat → Nat) : Nat → Nat → Nat
  | 0, s => s
  | k + 1, s => if T s = 32 then skF T k (s + 1) else s
def skS (n : Nat) (T : Nat → Nat) (s : Nat) : Nat := skF T (n - s) s
def rnF (T : Nat → Nat) (c : Nat) : Nat → Nat → Nat
  | 0, s => s
  | k + 1, s => if kd (T s) = c then rnF T c k (s + 1) else s
def enS (n : Nat) (T : Nat → Nat) (s : Nat) : Nat := if s < n then (if kd (T s) = 3 then s + 1 else rnF T (kd (T s)) (n - (s + 1)) (s + 1)) else s
def tk (n : Nat) (T : Nat → Nat) (s : Nat) : Nat := if s < n then kd (T s) else 0
theorem kd_v (x : Nat) : kd x = 1 ∨ kd x = 2 ∨ kd x = 3 := by
  unfold kd
  split
  · exact Or.inl rfl
  · split
    · exact Or.inr (Or.inl rfl)
    · exact Or.inr (Or.inr rfl)
theorem kd_1 {x : Nat} : kd x = 1 ↔ 97 ≤ x ∧ x ≤ 122 := by
  unfold kd
  split
  · exact ⟨fun _ => by assumption, fun _ => rfl⟩
  · split
    · exact ⟨fun h => absurd h (by decide), fun h => absurd h (by assumption)⟩
    · exact ⟨fun h => absurd h (by decide), fun h => absurd h (by assumption)⟩
theorem kd_2 {x : Nat} : kd x = 2 ↔ 48 ≤ x ∧ x ≤ 57 := by
  unfold kd
  split
  · exact ⟨fun h => absurd h (by decide), fun h => by omega⟩
  · split
    · exact ⟨fun _ => by assumption, fun _ => rfl⟩
    · exact ⟨fun h => absurd h (by decide), fun h => absurd h (by assumption)⟩
theorem skF_le (T : Nat → Nat) : ∀ k s, s ≤ skF T k s ∧ skF T k s ≤ s + k
  | 0, s => ⟨Nat.le_refl _, Nat.le_refl _⟩
  | k + 1, s => by
    unfold skF
    have := skF_le T k (s + 1)
    split
    · omega
    · omega
theorem skS_le {n : Nat} {T : Nat → Nat} {p : Nat} (h : p ≤ n) : p ≤ skS n T p ∧ skS n T p ≤ n := by
  have := skF_le T (n - p) p
  unfold skS
  omega
theorem rnF_le (T : Nat → Nat) (c : Nat) : ∀ k s, s ≤ rnF T c k s ∧ rnF T c k s ≤ s + k
  | 0, s => ⟨Nat.le_refl _, Nat.le_refl _⟩
  | k + 1, s => by
    unfold rnF
    have := rnF_le T c k (s + 1)
    split
    · omega
    · omega
theorem rnF_kd (T : Nat → Nat) (c : Nat) : ∀ k s i, s ≤ i → i < rnF T c k s → kd (T i) = c
  | 0, s, i, h1, h2 => absurd h2 (by unfold rnF; omega)
  | k + 1, s, i, h1, h2 => by
    unfold rnF at h2
    split at h2
    · next h =>
      by_cases e : i = s
      · rw [e]; exact h
      · exact rnF_kd T c k (s + 1) i (by omega) h2
    · omega
theorem enS_le {n : Nat} {T : Nat → Nat} {s : Nat} (h : s ≤ n) : s ≤ enS n T s ∧ enS n T s ≤ n := by
  unfold enS
  split
  · split
    · omega
    · have := rnF_le T (kd (T s)) (n - (s + 1)) (s + 1); omega
  · omega
theorem enS_lt {n : Nat} {T : Nat → Nat} {s : Nat} (h : s < n) : s < enS n T s := by
  unfold enS
  rw [if_pos h]
  split
  · omega
  · have := rnF_le T (kd (T s)) (n - (s + 1)) (s + 1); omega
theorem enS_ge {n : Nat} {T : Nat → Nat} {s : Nat} (h : n ≤ s) : enS n T s = s := by
  unfold enS
  rw [if_neg (by omega)]
theorem enS_kd {n : Nat} {T : Nat → Nat} {s i : Nat} (h1 : s ≤ i) (h2 : i < enS n T s) : kd (T i) = kd (T s) := by
  unfold enS at h2
  split at h2
  · split at h2
    · rw [show i = s by omega]
    · by_cases e : i = s
      · rw [e]
      · exact rnF_kd T _ _ _ i (by omega) h2
  · omega
/-- the digits' number -/
def vF (T : Nat → Nat) : Nat → Nat → Nat → Nat
  | 0, _, v => v
  | m + 1, i, v => vF T m (i + 1) (10 * v + T i - 48)
/-- crosses and rings alone -/
def xoF (T : Nat → Nat) : Nat → Nat → Bool
  | 0, _ => true
  | m + 1, i => if T i = 120 ∨ T i = 111 then xoF T m (i + 1) else false
def cbF (T : Nat → Nat) (s : Nat) : Nat → Bool := fun k => decide (T (s + k) = 120)
/-- the letters of word w, from place s on -/
def lwF (T : Nat → Nat) (w s : Nat) : Nat → Nat → Bool
  | 0, _ => true
  | m + 1, k => if T (s + k) = wc w k then lwF T w s m (k + 1) else false
def wdB (n : Nat) (T : Nat → Nat) (s e w : Nat) : Bool := if tk n T s = 1 ∧ e - s = wl w then lwF T w s (wl w) 0 else false
/-- the first word that it is; 8 if none -/
def wF (n : Nat) (T : Nat → Nat) (s e : Nat) : Nat → Nat → Nat
  | 0, _ => 8
  | m + 1, w => if wdB n T s e w = true then w else wF n T s e m (w + 1)
def wN (w : Nat) : Int32 := if w = 8 then -1 else nI w
theorem wF_le (n : Nat) (T : Nat → Nat) (s e : Nat) : ∀ m w, w + m = 8 → wF n T s e m w ≤ 8
  | 0, w, h => Nat.le_refl _
  | m + 1, w, h => by
    unfold wF
    split
    · omega
    · exact wF_le n T s e m (w + 1) (by omega)
/-! the text's tokens (class) -/
def TX (σ : ip_G) (n : Nat) (T : Nat → Nat) (s e : Nat) : Prop := CT σ n T ∧ σ 68 2 = nI s ∧ σ 68 3 = nI e ∧ σ 68 4 = nI (tk n T s)
theorem CT_fr {σ σ' : ip_G} {n : Nat} {T : Nat → Nat} (h : CT σ n T) (h1 : σ' 68 1 = σ 68 1) (h2 : σ' 69 = σ 69) : CT σ' n T := by
  unfold CT
  rw [h1, h2]
  exact h
theorem c_kindOf (E : ip_E) {c : Nat} (hc : c < 256) (σ : ip_G) (κ : Option Value → ip_G → Prop) : wp E 17 0 [.int (nI c)] [] σ κ = κ (some (.int (nI (kd c)))) σ := by
  by_cases h1 : c < 97
  · have a1 : nI c < nI 97 := nI_lt h1 (by omega)
    by_cases h2 : c < 48
    · have a2 : nI c < nI 48 := nI_lt h2 (by omega)
      have hk : kd c = 3 := by unfold kd; rw [if_neg (by omega), if_neg (by omega)]
      simp (disch := first | assumption | exact bz0 | exact bz1 | exact bzi | omega | decide +kernel) only [I_17_0, I_17_1, I_17_3, I_17_6, I_17_7, I_17_9, I_17_12, I_17_13, I_17_14, I_17_15, I_17_17, I_17_20, I_17_21, I_17_23, I_17_26, I_17_27, I_17_30, I_17_31, a1, a2, ↓reduceIte, hk]
    · have a2 : ¬ nI c < nI 48 := nI_nlt (by omega) (by omega)
      by_cases h3 : c ≤ 57
      · have a3 : ¬ nI 57 < nI c := nI_nlt (by omega) (by omega)
        have hk : kd c = 2 := by unfold kd; rw [if_neg (by omega), if_pos (by omega)]
        simp (disch := first | assumption | exact bz0 | exact bz1 | exact bzi | omega | decide +kernel) only [I_17_0, I_17_1, I_17_3, I_17_6, I_17_7, I_17_9, I_17_12, I_17_13, I_17_14, I_17_15, I_17_17, I_17_20, I_17_21, I_17_23, I_17_26, I_17_27, I_17_30, I_17_31, a1, a2, a3, ↓reduceIte, hk]
      · have a3 : nI 57 < nI c := nI_lt (by omega) (by omega)
        have hk : kd c = 3 := by unfold kd; rw [if_neg (by omega), if_neg (by omega)]
        simp (disch := first | assumption | exact bz0 | exact bz1 | exact bzi | omega | decide +kernel) only [I_17_0, I_17_1, I_17_3, I_17_6, I_17_7, I_17_9, I_17_12, I_17_13, I_17_14, I_17_15, I_17_17, I_17_20, I_17_21, I_17_23, I_17_26, I_17_27, I_17_30, I_17_31, a1, a2, a3, ↓reduceIte, hk]
  · have a1 : ¬ nI c < nI 97 := nI_nlt (by omega) (by omega)
    by_cases h2 : c ≤ 122
    · have a2 : ¬ nI 122 < nI c := nI_nlt (by omega) (by omega)
      have hk : kd c = 1 := by unfold kd; rw [if_pos (by omega)]
      simp (disch := first | assumption | exact bz0 | exact bz1 | exact bzi | omega | decide +kernel) only [I_17_0, I_17_1, I_17_3, I_17_6, I_17_7, I_17_9, I_17_12, I_17_13, I_17_14, I_17_15, I_17_17, I_17_20, I_17_21, I_17_23, I_17_26, I_17_27, I_17_30, I_17_31, a1, a2, ↓reduceIte, hk]
    · have a2 : nI 122 < nI c := nI_lt (by omega) (by omega)
      have a3 : ¬ nI c < nI 48 := nI_nlt (by omega) (by omega)
      have a4 : nI 57 < nI c := nI_lt (by omega) (by omega)
      have hk : kd c = 3 := by unfold kd; rw [if_neg (by omega), if_neg (by omega)]
      simp (disch := first | assumption | exact bz0 | exact bz1 | exact bzi | omega | decide +kernel) only [I_17_0, I_17_1, I_17_3, I_17_6, I_17_7, I_17_9, I_17_12, I_17_13, I_17_14, I_17_15, I_17_17, I_17_20, I_17_21, I_17_23, I_17_26, I_17_27, I_17_30, I_17_31, a1, a2, a3, a4, ↓reduceIte, hk]
theorem L_goOn1 (E : ip_E) {σ : ip_G} {n : Nat} {T : Nat → Nat} (κ : Option Value → ip_G → Prop) : ∀ (m s : Nat) (σ' : ip_G), s + m = n → CT σ' n T → σ' 68 2 = nI s → (∀ k, k ≠ 68 → σ' k = σ k) → (∀ σ2, CT σ2 n T → σ2 68 2 = nI (skF T m s) → (∀ k, k ≠ 68 → σ2 k = σ k) → wp E 16 46 [.ref 68] [] σ2 κ) → wp E 16 8 [.ref 68] [] σ' κ := by
  intro m
  induction m with
  | zero =>
    intro s σ' hs hT h2 hf hk
    have hn := hT.2.1
    have hc : nI n ≤ nI s := nI_le (by omega) (by omega)
    simp (disch := first | assumption | exact bz0 | exact bz1 | exact bzi | omega | decide +kernel) only [I_16_0, I_16_1, I_16_2, I_16_5, I_16_8, I_16_9, I_16_12, I_16_13, I_16_16, I_16_19, I_16_20, I_16_23, I_16_24, I_16_27, I_16_28, I_16_30, I_16_33, I_16_34, I_16_35, I_16_38, I_16_39, I_16_40, I_16_43, I_16_47, I_16_48, I_16_51, I_16_54, I_16_55, I_16_58, I_16_59, I_16_62, I_16_65, I_16_66, I_16_67, I_16_70, I_16_71, I_16_72, I_16_73, I_16_76, I_16_77, I_16_80, I_16_81, I_16_84, I_16_87, I_16_88, I_16_89, I_16_92, I_16_93, I_16_94, I_16_98, I_16_101, I_16_102, I_16_105, I_16_106, I_16_109, I_16_110, I_16_113, I_16_116, I_16_117, I_16_120, I_16_121, I_16_124, I_16_125, I_16_128, I_16_129, I_16_132, I_16_135, I_16_136, I_16_137, I_16_140, I_16_141, I_16_142, I_16_145, I_16_148, h2, hT.1, hc, ↓reduceIte]
    exact hk σ' hT h2 hf
  | succ m ih =>
    intro s σ' hs hT h2 hf hk
    have hn := hT.2.1
    have hc : ¬ nI n ≤ nI s := nI_ge (by omega) (by omega)
    obtain ⟨t1, t2⟩ := hT.2.2 s (by omega)
    rw [I_16_8]
    by_cases h : T s = 32
    · have hq : nI (T s) = nI 32 := by rw [h]
      simp (disch := first | assumption | exact bz0 | exact bz1 | exact bzi | omega | decide +kernel) only [I_16_0, I_16_1, I_16_2, I_16_5, I_16_9, I_16_12, I_16_13, I_16_16, I_16_19, I_16_20, I_16_23, I_16_24, I_16_27, I_16_28, I_16_30, I_16_33, I_16_34, I_16_35, I_16_38, I_16_39, I_16_40, I_16_43, I_16_47, I_16_48, I_16_51, I_16_54, I_16_55, I_16_58, I_16_59, I_16_62, I_16_65, I_16_66, I_16_67, I_16_70, I_16_71, I_16_72, I_16_73, I_16_76, I_16_77, I_16_80, I_16_81, I_16_84, I_16_87, I_16_88, I_16_89, I_16_92, I_16_93, I_16_94, I_16_98, I_16_101, I_16_102, I_16_105, I_16_106, I_16_109, I_16_110, I_16_113, I_16_116, I_16_117, I_16_120, I_16_121, I_16_124, I_16_125, I_16_128, I_16_129, I_16_132, I_16_135, I_16_136, I_16_137, I_16_140, I_16_141, I_16_142, I_16_145, I_16_148, rr_0_0, rr_0_1, rr_0_2, rr_0_3, rr_0_4, rr_0_5, rr_0_6, rr_0_7, rr_0_8, rr_1_0, rr_1_1, rr_1_2, rr_1_3, rr_2_4, rr_2_5, rr_2_6, rr_2_7, rr_2_8, rr_13_0, rr_15_4, rr_15_5, rr_15_6, rr_15_7, rr_15_8, rr_21_4, rr_21_5, rr_21_6, rr_21_7, rr_21_8, rr_27_4, rr_27_5, rr_27_6, rr_27_7, rr_27_8, rr_33_4, rr_33_5, rr_33_6, rr_33_7, rr_33_8, rr_39_4, rr_39_5, rr_39_6, rr_39_7, rr_39_8, rr_45_4, rr_45_5, rr_45_6, rr_45_7, rr_45_8, rr_51_4, rr_51_5, rr_51_6, rr_51_7, rr_51_8, rr_57_4, rr_57_5, rr_57_6, rr_57_7, rr_57_8, rr_63_2, rr_63_3, rr_63_4, rr_63_5, rr_68_0, rr_70_1, rr_70_2, rr_74_4, rr_74_5, rr_74_6, rr_74_7, rr_74_8, rr_80_4, rr_80_5, rr_80_6, rr_80_7, rr_80_8, rr_86_2, rr_88_2, rr_90_2, rr_92_0, rr_92_1, rr_92_5, rr_92_6, rr_92_8, rr_92_9, rr_92_12, rr_92_15, rr_92_16, rr_92_17, h2, hT.1, hc, t1, hq, not_true_eq_false, ↓reduceIte, nI_add]
      refine ih (s + 1) _ (by omega) (CT_fr hT (by rw [u2_i (by omega)]) (by rw [u2_f (by omega)])) (u2_s _ _ _ _) (fun k hk2 => by rw [u2_f hk2]; exact hf k hk2) (fun σ2 a b c => ?_)
      refine hk σ2 a ?_ c
      rw [b]
      show _ = nI (if T s = 32 then skF T m (s + 1) else s)
      rw [if_pos h]
    · have hq : ¬ nI (T s) = nI 32 := fun z => h ((nI_eq (by omega) (by omega)).mp z)
      simp (disch := first | assumption | exact bz0 | exact bz1 | exact bzi | omega | decide +kernel) only [I_16_0, I_16_1, I_16_2, I_16_5, I_16_9, I_16_12, I_16_13, I_16_16, I_16_19, I_16_20, I_16_23, I_16_24, I_16_27, I_16_28, I_16_30, I_16_33, I_16_34, I_16_35, I_16_38, I_16_39, I_16_40, I_16_43, I_16_47, I_16_48, I_16_51, I_16_54, I_16_55, I_16_58, I_16_59, I_16_62, I_16_65, I_16_66, I_16_67, I_16_70, I_16_71, I_16_72, I_16_73, I_16_76, I_16_77, I_16_80, I_16_81, I_16_84, I_16_87, I_16_88, I_16_89, I_16_92, I_16_93, I_16_94, I_16_98, I_16_101, I_16_102, I_16_105, I_16_106, I_16_109, I_16_110, I_16_113, I_16_116, I_16_117, I_16_120, I_16_121, I_16_124, I_16_125, I_16_128, I_16_129, I_16_132, I_16_135, I_16_136, I_16_137, I_16_140, I_16_141, I_16_142, I_16_145, I_16_148, rr_0_0, rr_0_1, rr_0_2, rr_0_3, rr_0_4, rr_0_5, rr_0_6, rr_0_7, rr_0_8, rr_1_0, rr_1_1, rr_1_2, rr_1_3, rr_2_4, rr_2_5, rr_2_6, rr_2_7, rr_2_8, rr_13_0, rr_15_4, rr_15_5, rr_15_6, rr_15_7, rr_15_8, rr_21_4, rr_21_5, rr_21_6, rr_21_7, rr_21_8, rr_27_4, rr_27_5, rr_27_6, rr_27_7, rr_27_8, rr_33_4, rr_33_5, rr_33_6, rr_33_7, rr_33_8, rr_39_4, rr_39_5, rr_39_6, rr_39_7, rr_39_8, rr_45_4, rr_45_5, rr_45_6, rr_45_7, rr_45_8, rr_51_4, rr_51_5, rr_51_6, rr_51_7, rr_51_8, rr_57_4, rr_57_5, rr_57_6, rr_57_7, rr_57_8, rr_63_2, rr_63_3, rr_63_4, rr_63_5, rr_68_0, rr_70_1, rr_70_2, rr_74_4, rr_74_5, rr_74_6, rr_74_7, rr_74_8, rr_80_4, rr_80_5, rr_80_6, rr_80_7, rr_80_8, rr_86_2, rr_88_2, rr_90_2, rr_92_0, rr_92_1, rr_92_5, rr_92_6, rr_92_8, rr_92_9, rr_92_12, rr_92_15, rr_92_16, rr_92_17, h2, hT.1, hc, t1, hq, not_false_eq_true, ↓reduceIte]
      refine hk σ' hT ?_ hf
      rw [h2]
      show _ = nI (if T s = 32 then skF T m (s + 1) else s)
      rw [if_neg h]
theorem L_goOn2 (E : ip_E) {σ : ip_G} {n : Nat} {T : Nat → Nat} {s c : Nat} (hc3 : ¬ c = 3) (hc4 : c ≤ 3) (κ : Option Value → ip_G → Prop) (hk : ∀ σ2, CT σ2 n T → σ2 68 2 = nI s → σ2 68 3 = nI (rnF T c (n - (s + 1)) (s + 1)) → σ2 68 4 = nI c → (∀ k, k ≠ 68 → σ2 k = σ k) → κ none σ2) : ∀ (m e : Nat) (σ' : ip_G), e + m = n → CT σ' n T → σ' 68 2 = nI s → σ' 68 3 = nI e → σ' 68 4 = nI c → rnF T c (n - (s + 1)) (s + 1) = rnF T c m e → (∀ k, k ≠ 68 → σ' k = σ k) → wp E 16 97 [.ref 68] [] σ' κ := by
  intro m
  induction m with
  | zero =>
    intro e σ' he hT h2 h3 h4 hr hf
    have hn := hT.2.1
    have hc : nI n ≤ nI e := nI_le (by omega) (by omega)
    have hq : ¬ nI c = nI 3 := fun z => hc3 ((nI_eq (by omega) (by omega)).mp z)
    simp (disch := first | assumption | exact bz0 | exact bz1 | exact bzi | omega | decide +kernel) only [I_16_0, I_16_1, I_16_2, I_16_5, I_16_9, I_16_12, I_16_13, I_16_16, I_16_19, I_16_20, I_16_23, I_16_24, I_16_27, I_16_28, I_16_30, I_16_33, I_16_34, I_16_35, I_16_38, I_16_39, I_16_40, I_16_43, I_16_46, I_16_47, I_16_48, I_16_51, I_16_54, I_16_55, I_16_58, I_16_59, I_16_62, I_16_65, I_16_66, I_16_67, I_16_70, I_16_71, I_16_72, I_16_73, I_16_76, I_16_77, I_16_80, I_16_81, I_16_84, I_16_87, I_16_88, I_16_89, I_16_92, I_16_93, I_16_94, I_16_97, I_16_98, I_16_101, I_16_102, I_16_105, I_16_106, I_16_109, I_16_110, I_16_113, I_16_116, I_16_117, I_16_120, I_16_121, I_16_124, I_16_125, I_16_128, I_16_129, I_16_132, I_16_135, I_16_136, I_16_137, I_16_140, I_16_141, I_16_142, I_16_145, I_16_148, h3, h4, hT.1, hc, hq, ↓reduceIte]
    exact hk σ' hT h2 (by rw [h3, hr]; rfl) h4 hf
  | succ m ih =>
    intro e σ' he hT h2 h3 h4 hr hf
    have hn := hT.2.1
    have hc : ¬ nI n ≤ nI e := nI_ge (by omega) (by omega)
    have hq : ¬ nI c = nI 3 := fun z => hc3 ((nI_eq (by omega) (by omega)).mp z)
    obtain ⟨t1, t2⟩ := hT.2.2 e (by omega)
    have kv := kd_v (T e)
    have hr2 : rnF T c (m + 1) e = if kd (T e) = c then rnF T c m (e + 1) else e := rfl
    rw [I_16_97]
    by_cases h : kd (T e) = c
    · have hq2 : nI (kd (T e)) = nI c := by rw [h]
      rw [hr2, if_pos h] at hr
      simp (disch := first | assumption | exact bz0 | exact bz1 | exact bzi | omega | decide +kernel) only [I_16_0, I_16_1, I_16_2, I_16_5, I_16_9, I_16_12, I_16_13, I_16_16, I_16_19, I_16_20, I_16_23, I_16_24, I_16_27, I_16_28, I_16_30, I_16_33, I_16_34, I_16_35, I_16_38, I_16_39, I_16_40, I_16_43, I_16_46, I_16_47, I_16_48, I_16_51, I_16_54, I_16_55, I_16_58, I_16_59, I_16_62, I_16_65, I_16_66, I_16_67, I_16_70, I_16_71, I_16_72, I_16_73, I_16_76, I_16_77, I_16_80, I_16_81, I_16_84, I_16_87, I_16_88, I_16_89, I_16_92, I_16_93, I_16_94, I_16_98, I_16_101, I_16_102, I_16_105, I_16_106, I_16_109, I_16_110, I_16_113, I_16_116, I_16_117, I_16_120, I_16_121, I_16_124, I_16_125, I_16_128, I_16_129, I_16_132, I_16_135, I_16_136, I_16_137, I_16_140, I_16_141, I_16_142, I_16_145, I_16_148, rr_0_0, rr_0_1, rr_0_2, rr_0_3, rr_0_4, rr_0_5, rr_0_6, rr_0_7, rr_0_8, rr_1_0, rr_1_1, rr_1_2, rr_1_3, rr_2_4, rr_2_5, rr_2_6, rr_2_7, rr_2_8, rr_13_0, rr_15_4, rr_15_5, rr_15_6, rr_15_7, rr_15_8, rr_21_4, rr_21_5, rr_21_6, rr_21_7, rr_21_8, rr_27_4, rr_27_5, rr_27_6, rr_27_7, rr_27_8, rr_33_4, rr_33_5, rr_33_6, rr_33_7, rr_33_8, rr_39_4, rr_39_5, rr_39_6, rr_39_7, rr_39_8, rr_45_4, rr_45_5, rr_45_6, rr_45_7, rr_45_8, rr_51_4, rr_51_5, rr_51_6, rr_51_7, rr_51_8, rr_57_4, rr_57_5, rr_57_6, rr_57_7, rr_57_8, rr_63_2, rr_63_3, rr_63_4, rr_63_5, rr_68_0, rr_70_1, rr_70_2, rr_74_4, rr_74_5, rr_74_6, rr_74_7, rr_74_8, rr_80_4, rr_80_5, rr_80_6, rr_80_7, rr_80_8, rr_86_2, rr_88_2, rr_90_2, rr_92_0, rr_92_1, rr_92_5, rr_92_6, rr_92_8, rr_92_9, rr_92_12, rr_92_15, rr_92_16, rr_92_17, h3, h4, hT.1, hc, hq, t1, c_kindOf E t2, Option.toList_some, List.cons_append, List.nil_append, hq2, not_true_eq_false, ↓reduceIte, nI_add]
      exact ih (e + 1) _ (by omega) (CT_fr hT (by rw [u2_i (by omega)]) (by rw [u2_f (by omega)])) (by rw [u2_i (by omega)]; exact h2) (u2_s _ _ _ _) (by rw [u2_i (by omega)]; exact h4) hr (fun k hk2 => by rw [u2_f hk2]; exact hf k hk2)
    · have hq2 : ¬ nI (kd (T e)) = nI c := fun z => h ((nI_eq (by omega) (by omega)).mp z)
      rw [hr2, if_neg h] at hr
      simp (disch := first | assumption | exact bz0 | exact bz1 | exact bzi | omega | decide +kernel) only [I_16_0, I_16_1, I_16_2, I_16_5, I_16_9, I_16_12, I_16_13, I_16_16, I_16_19, I_16_20, I_16_23, I_16_24, I_16_27, I_16_28, I_16_30, I_16_33, I_16_34, I_16_35, I_16_38, I_16_39, I_16_40, I_16_43, I_16_46, I_16_47, I_16_48, I_16_51, I_16_54, I_16_55, I_16_58, I_16_59, I_16_62, I_16_65, I_16_66, I_16_67, I_16_70, I_16_71, I_16_72, I_16_73, I_16_76, I_16_77, I_16_80, I_16_81, I_16_84, I_16_87, I_16_88, I_16_89, I_16_92, I_16_93, I_16_94, I_16_98, I_16_101, I_16_102, I_16_105, I_16_106, I_16_109, I_16_110, I_16_113, I_16_116, I_16_117, I_16_120, I_16_121, I_16_124, I_16_125, I_16_128, I_16_129, I_16_132, I_16_135, I_16_136, I_16_137, I_16_140, I_16_141, I_16_142, I_16_145, I_16_148, rr_0_0, rr_0_1, rr_0_2, rr_0_3, rr_0_4, rr_0_5, rr_0_6, rr_0_7, rr_0_8, rr_1_0, rr_1_1, rr_1_2, rr_1_3, rr_2_4, rr_2_5, rr_2_6, rr_2_7, rr_2_8, rr_13_0, rr_15_4, rr_15_5, rr_15_6, rr_15_7, rr_15_8, rr_21_4, rr_21_5, rr_21_6, rr_21_7, rr_21_8, rr_27_4, rr_27_5, rr_27_6, rr_27_7, rr_27_8, rr_33_4, rr_33_5, rr_33_6, rr_33_7, rr_33_8, rr_39_4, rr_39_5, rr_39_6, rr_39_7, rr_39_8, rr_45_4, rr_45_5, rr_45_6, rr_45_7, rr_45_8, rr_51_4, rr_51_5, rr_51_6, rr_51_7, rr_51_8, rr_57_4, rr_57_5, rr_57_6, rr_57_7, rr_57_8, rr_63_2, rr_63_3, rr_63_4, rr_63_5, rr_68_0, rr_70_1, rr_70_2, rr_74_4, rr_74_5, rr_74_6, rr_74_7, rr_74_8, rr_80_4, rr_80_5, rr_80_6, rr_80_7, rr_80_8, rr_86_2, rr_88_2, rr_90_2, rr_92_0, rr_92_1, rr_92_5, rr_92_6, rr_92_8, rr_92_9, rr_92_12, rr_92_15, rr_92_16, rr_92_17, h3, h4, hT.1, hc, hq, t1, c_kindOf E t2, Option.toList_some, List.cons_append, List.nil_append, hq2, not_false_eq_true, ↓reduceIte]
      exact hk σ' hT h2 (by rw [h3, hr]) h4 hf
theorem c_goOn (E : ip_E) {σ : ip_G} {n : Nat} {T : Nat → Nat} {p : Nat} (hT : CT σ n T) (hp : σ 68 3 = nI p) (hpn : p ≤ n) (κ : Option Value → ip_G → Prop) (hk : ∀ σ', TX σ' n T (skS n T p) (enS n T (skS n T p)) → (∀ k, k ≠ 68 → σ' k = σ k) → κ none σ') : wp E 16 0 [.ref 68] [] σ κ := by
  simp (disch := first | assumption | exact bz0 | exact bz1 | exact bzi | omega | decide +kernel) only [I_16_0, I_16_1, I_16_2, I_16_5, I_16_9, I_16_12, I_16_13, I_16_16, I_16_19, I_16_20, I_16_23, I_16_24, I_16_27, I_16_28, I_16_30, I_16_33, I_16_34, I_16_35, I_16_38, I_16_39, I_16_40, I_16_43, I_16_46, I_16_47, I_16_48, I_16_51, I_16_54, I_16_55, I_16_58, I_16_59, I_16_62, I_16_65, I_16_66, I_16_67, I_16_70, I_16_71, I_16_72, I_16_73, I_16_76, I_16_77, I_16_80, I_16_81, I_16_84, I_16_87, I_16_88, I_16_89, I_16_92, I_16_93, I_16_94, I_16_98, I_16_101, I_16_102, I_16_105, I_16_106, I_16_109, I_16_110, I_16_113, I_16_116, I_16_117, I_16_120, I_16_121, I_16_124, I_16_125, I_16_128, I_16_129, I_16_132, I_16_135, I_16_136, I_16_137, I_16_140, I_16_141, I_16_142, I_16_145, I_16_148, hp]
  refine L_goOn1 E (σ := σ) κ (n - p) p _ (by omega) (CT_fr hT (by rw [u2_i (by omega)]) (by rw [u2_f (by omega)])) (u2_s _ _ _ _) (fun k hk2 => by rw [u2_f hk2]) (fun σ2 a b c => ?_)
  have b' : σ2 68 2 = nI (skS n T p) := b
  have sl := skS_le (T := T) hpn
  have hn := a.2.1
  generalize skS n T p = s at *
  by_cases h : s < n
  · have hc : nI s < nI n := nI_lt h (by omega)
    obtain ⟨t1, t2⟩ := a.2.2 s h
    have htk : tk n T s = kd (T s) := if_pos h
    simp (disch := first | assumption | exact bz0 | exact bz1 | exact bzi | omega | decide +kernel) only [I_16_0, I_16_1, I_16_2, I_16_5, I_16_9, I_16_12, I_16_13, I_16_16, I_16_19, I_16_20, I_16_23, I_16_24, I_16_27, I_16_28, I_16_30, I_16_33, I_16_34, I_16_35, I_16_38, I_16_39, I_16_40, I_16_43, I_16_46, I_16_47, I_16_48, I_16_51, I_16_54, I_16_55, I_16_58, I_16_59, I_16_62, I_16_65, I_16_66, I_16_67, I_16_70, I_16_71, I_16_72, I_16_73, I_16_76, I_16_77, I_16_80, I_16_81, I_16_84, I_16_87, I_16_88, I_16_89, I_16_92, I_16_93, I_16_94, I_16_98, I_16_101, I_16_102, I_16_105, I_16_106, I_16_109, I_16_110, I_16_113, I_16_116, I_16_117, I_16_120, I_16_121, I_16_124, I_16_125, I_16_128, I_16_129, I_16_132, I_16_135, I_16_136, I_16_137, I_16_140, I_16_141, I_16_142, I_16_145, I_16_148, rr_0_0, rr_0_1, rr_0_2, rr_0_3, rr_0_4, rr_0_5, rr_0_6, rr_0_7, rr_0_8, rr_1_0, rr_1_1, rr_1_2, rr_1_3, rr_2_4, rr_2_5, rr_2_6, rr_2_7, rr_2_8, rr_13_0, rr_15_4, rr_15_5, rr_15_6, rr_15_7, rr_15_8, rr_21_4, rr_21_5, rr_21_6, rr_21_7, rr_21_8, rr_27_4, rr_27_5, rr_27_6, rr_27_7, rr_27_8, rr_33_4, rr_33_5, rr_33_6, rr_33_7, rr_33_8, rr_39_4, rr_39_5, rr_39_6, rr_39_7, rr_39_8, rr_45_4, rr_45_5, rr_45_6, rr_45_7, rr_45_8, rr_51_4, rr_51_5, rr_51_6, rr_51_7, rr_51_8, rr_57_4, rr_57_5, rr_57_6, rr_57_7, rr_57_8, rr_63_2, rr_63_3, rr_63_4, rr_63_5, rr_68_0, rr_70_1, rr_70_2, rr_74_4, rr_74_5, rr_74_6, rr_74_7, rr_74_8, rr_80_4, rr_80_5, rr_80_6, rr_80_7, rr_80_8, rr_86_2, rr_88_2, rr_90_2, rr_92_0, rr_92_1, rr_92_5, rr_92_6, rr_92_8, rr_92_9, rr_92_12, rr_92_15, rr_92_16, rr_92_17, b', a.1, hc, u2_i, u2_k, u2_s, t1, c_kindOf E t2, Option.toList_some, List.cons_append, List.nil_append, ↓reduceIte, nI_add]
    have kv := kd_v (T s)
    by_cases h3 : kd (T s) = 3
    · have he : enS n T s = s + 1 := by unfold enS; rw [if_pos h, if_pos h3]
      rw [he] at hk
      rw [h3] at htk ⊢
      have z4 : (ip_u2 (ip_u2 (ip_u2 σ2 68 3 (nI s)) 68 4 (nI 3)) 68 3 (nI (s + 1))) 68 4 = nI 3 := by rw [u2_i (by omega), u2_s]
      simp (disch := first | assumption | exact bz0 | exact bz1 | exact bzi | omega | decide +kernel) only [I_16_0, I_16_1, I_16_2, I_16_5, I_16_9, I_16_12, I_16_13, I_16_16, I_16_19, I_16_20, I_16_23, I_16_24, I_16_27, I_16_28, I_16_30, I_16_33, I_16_34, I_16_35, I_16_38, I_16_39, I_16_40, I_16_43, I_16_46, I_16_47, I_16_48, I_16_51, I_16_54, I_16_55, I_16_58, I_16_59, I_16_62, I_16_65, I_16_66, I_16_67, I_16_70, I_16_71, I_16_72, I_16_73, I_16_76, I_16_77, I_16_80, I_16_81, I_16_84, I_16_87, I_16_88, I_16_89, I_16_92, I_16_93, I_16_94, I_16_97, I_16_98, I_16_101, I_16_102, I_16_105, I_16_106, I_16_109, I_16_110, I_16_113, I_16_116, I_16_117, I_16_120, I_16_121, I_16_124, I_16_125, I_16_128, I_16_129, I_16_132, I_16_135, I_16_136, I_16_137, I_16_140, I_16_141, I_16_142, I_16_145, I_16_148, z4, ↓reduceIte]
      exact hk _ ⟨CT_fr a (by rw [u2_i (by omega), u2_i (by omega), u2_i (by omega)]) (by rw [u2_f (by omega), u2_f (by omega), u2_f (by omega)]), by rw [u2_i (by omega), u2_i (by omega), u2_i (by omega)]; exact b', u2_s _ _ _ _, by rw [z4, htk]⟩ (fun k hk2 => by rw [u2_f hk2, u2_f hk2, u2_f hk2]; exact c k hk2)
    · have he : enS n T s = rnF T (kd (T s)) (n - (s + 1)) (s + 1) := by unfold enS; rw [if_pos h, if_neg h3]
      rw [he] at hk
      refine L_goOn2 E (σ := σ) (n := n) (T := T) (s := s) h3 (by omega) κ (fun σ3 d1 d2 d3 d4 d5 => hk σ3 ⟨d1, d2, d3, by rw [d4, htk]⟩ d5) (n - (s + 1)) (s + 1) _ (by omega) (CT_fr a (by rw [u2_i (by omega), u2_i (by omega), u2_i (by omega)]) (by rw [u2_f (by omega), u2_f (by omega), u2_f (by omega)])) (by rw [u2_i (by omega), u2_i (by omega), u2_i (by omega)]; exact b') (u2_s _ _ _ _) (by rw [u2_i (by omega), u2_s]) rfl (fun k hk2 => by rw [u2_f hk2, u2_f hk2, u2_f hk2]; exact c k hk2)
  · have hc : ¬ nI s < nI n := nI_nlt (by omega) (by omega)
    have htk : tk n T s = 0 := if_neg h
    have he : enS n T s = s := if_neg h
    rw [he] at hk
    simp (disch := first | assumption | exact bz0 | exact bz1 | exact bzi | omega | decide +kernel) only [I_16_0, I_16_1, I_16_2, I_16_5, I_16_9, I_16_12, I_16_13, I_16_16, I_16_19, I_16_20, I_16_23, I_16_24, I_16_27, I_16_28, I_16_30, I_16_33, I_16_34, I_16_35, I_16_38, I_16_39, I_16_40, I_16_43, I_16_46, I_16_47, I_16_48, I_16_51, I_16_54, I_16_55, I_16_58, I_16_59, I_16_62, I_16_65, I_16_66, I_16_67, I_16_70, I_16_71, I_16_72, I_16_73, I_16_76, I_16_77, I_16_80, I_16_81, I_16_84, I_16_87, I_16_88, I_16_89, I_16_92, I_16_93, I_16_94, I_16_98, I_16_101, I_16_102, I_16_105, I_16_106, I_16_109, I_16_110, I_16_113, I_16_116, I_16_117, I_16_120, I_16_121, I_16_124, I_16_125, I_16_128, I_16_129, I_16_132, I_16_135, I_16_136, I_16_137, I_16_140, I_16_141, I_16_142, I_16_145, I_16_148, rr_0_0, rr_0_1, rr_0_2, rr_0_3, rr_0_4, rr_0_5, rr_0_6, rr_0_7, rr_0_8, rr_1_0, rr_1_1, rr_1_2, rr_1_3, rr_2_4, rr_2_5, rr_2_6, rr_2_7, rr_2_8, rr_13_0, rr_15_4, rr_15_5, rr_15_6, rr_15_7, rr_15_8, rr_21_4, rr_21_5, rr_21_6, rr_21_7, rr_21_8, rr_27_4, rr_27_5, rr_27_6, rr_27_7, rr_27_8, rr_33_4, rr_33_5, rr_33_6, rr_33_7, rr_33_8, rr_39_4, rr_39_5, rr_39_6, rr_39_7, rr_39_8, rr_45_4, rr_45_5, rr_45_6, rr_45_7, rr_45_8, rr_51_4, rr_51_5, rr_51_6, rr_51_7, rr_51_8, rr_57_4, rr_57_5, rr_57_6, rr_57_7, rr_57_8, rr_63_2, rr_63_3, rr_63_4, rr_63_5, rr_68_0, rr_70_1, rr_70_2, rr_74_4, rr_74_5, rr_74_6, rr_74_7, rr_74_8, rr_80_4, rr_80_5, rr_80_6, rr_80_7, rr_80_8, rr_86_2, rr_88_2, rr_90_2, rr_92_0, rr_92_1, rr_92_5, rr_92_6, rr_92_8, rr_92_9, rr_92_12, rr_92_15, rr_92_16, rr_92_17, b', a.1, hc, u2_i, u2_k, u2_s, ↓reduceIte]
    exact hk _ ⟨CT_fr a (by rw [u2_i (by omega), u2_i (by omega)]) (by rw [u2_f (by omega), u2_f (by omega)]), by rw [u2_i (by omega), u2_i (by omega)]; exact b', by rw [u2_i (by omega), u2_s], by rw [u2_s, htk]⟩ (fun k hk2 => by rw [u2_f hk2, u2_f hk2]; exact c k hk2)
theorem c_size (E : ip_E) {σ : ip_G} {n : Nat} {T : Nat → Nat} {s e : Nat} (hT : TX σ n T s e) (hse : s ≤ e) (κ : Option Value → ip_G → Prop) : wp E 21 0 [.ref 68] [] σ κ = κ (some (.int (nI (e - s)))) σ := by
  obtain ⟨t0, t1, t2, t3⟩ := hT
  simp (disch := first | assumption | exact bz0 | exact bz1 | exact bzi | omega | decide +kernel) only [I_21_0, I_21_1, I_21_4, I_21_5, I_21_8, I_21_9, t1, t2, pk_sub hse]
def scB (n : Nat) (T : Nat → Nat) (s : Nat) : Bool := decide (s < n ∧ T s = 59)
theorem tk_le (n : Nat) (T : Nat → Nat) (s : Nat) : tk n T s ≤ 3 := by
  unfold tk
  split
  · have := kd_v (T s); omega
  · omega
theorem tk_lt {n : Nat} {T : Nat → Nat} {s : Nat} (h : tk n T s ≠ 0) : s < n ∧ tk n T s = kd (T s) := by
  unfold tk at h ⊢
  split
  · exact ⟨by assumption, rfl⟩
  · next hc => rw [if_neg hc] at h; exact absurd rfl h
theorem c_isSemicolon (E : ip_E) {σ : ip_G} {n : Nat} {T : Nat → Nat} {s e : Nat} (hT : TX σ n T s e) (κ : Option Value → ip_G → Prop) : wp E 38 0 [.ref 68] [] σ κ = κ (some (.int (nI (b2n (scB n T s))))) σ := by
  obtain ⟨t0, t1, t2, t3⟩ := hT
  have tl := tk_le n T s
  have hn := t0.2.1
  by_cases h : tk n T s = 3
  · obtain ⟨l1, l2⟩ := tk_lt (show tk n T s ≠ 0 by omega)
    obtain ⟨v1, v2⟩ := t0.2.2 s l1
    rw [h] at t3
    by_cases h2 : T s = 59
    · have hq : nI (T s) = nI 59 := by rw [h2]
      have hs : scB n T s = true := decide_eq_true ⟨l1, h2⟩
      simp (disch := first | assumption | exact bz0 | exact bz1 | exact bzi | omega | decide +kernel) only [I_38_0, I_38_1, I_38_4, I_38_5, I_38_8, I_38_9, I_38_12, I_38_13, I_38_16, I_38_17, I_38_19, I_38_22, I_38_23, I_38_26, I_38_27, rr_0_0, rr_0_1, rr_0_2, rr_0_3, rr_0_4, rr_0_5, rr_0_6, rr_0_7, rr_0_8, rr_1_0, rr_1_1, rr_1_2, rr_1_3, rr_2_4, rr_2_5, rr_2_6, rr_2_7, rr_2_8, rr_13_0, rr_15_4, rr_15_5, rr_15_6, rr_15_7, rr_15_8, rr_21_4, rr_21_5, rr_21_6, rr_21_7, rr_21_8, rr_27_4, rr_27_5, rr_27_6, rr_27_7, rr_27_8, rr_33_4, rr_33_5, rr_33_6, rr_33_7, rr_33_8, rr_39_4, rr_39_5, rr_39_6, rr_39_7, rr_39_8, rr_45_4, rr_45_5, rr_45_6, rr_45_7, rr_45_8, rr_51_4, rr_51_5, rr_51_6, rr_51_7, rr_51_8, rr_57_4, rr_57_5, rr_57_6, rr_57_7, rr_57_8, rr_63_2, rr_63_3, rr_63_4, rr_63_5, rr_68_0, rr_70_1, rr_70_2, rr_74_4, rr_74_5, rr_74_6, rr_74_7, rr_74_8, rr_80_4, rr_80_5, rr_80_6, rr_80_7, rr_80_8, rr_86_2, rr_88_2, rr_90_2, rr_92_0, rr_92_1, rr_92_5, rr_92_6, rr_92_8, rr_92_9, rr_92_12, rr_92_15, rr_92_16, rr_92_17, t1, t3, v1, hq, not_true_eq_false, ↓reduceIte, hs, b2n_t]
    · have hq : ¬ nI (T s) = nI 59 := fun z => h2 ((nI_eq (by omega) (by omega)).mp z)
      have hs : scB n T s = false := decide_eq_false (fun z => h2 z.2)
      simp (disch := first | assumption | exact bz0 | exact bz1 | exact bzi | omega | decide +kernel) only [I_38_0, I_38_1, I_38_4, I_38_5, I_38_8, I_38_9, I_38_12, I_38_13, I_38_16, I_38_17, I_38_19, I_38_22, I_38_23, I_38_26, I_38_27, rr_0_0, rr_0_1, rr_0_2, rr_0_3, rr_0_4, rr_0_5, rr_0_6, rr_0_7, rr_0_8, rr_1_0, rr_1_1, rr_1_2, rr_1_3, rr_2_4, rr_2_5, rr_2_6, rr_2_7, rr_2_8, rr_13_0, rr_15_4, rr_15_5, rr_15_6, rr_15_7, rr_15_8, rr_21_4, rr_21_5, rr_21_6, rr_21_7, rr_21_8, rr_27_4, rr_27_5, rr_27_6, rr_27_7, rr_27_8, rr_33_4, rr_33_5, rr_33_6, rr_33_7, rr_33_8, rr_39_4, rr_39_5, rr_39_6, rr_39_7, rr_39_8, rr_45_4, rr_45_5, rr_45_6, rr_45_7, rr_45_8, rr_51_4, rr_51_5, rr_51_6, rr_51_7, rr_51_8, rr_57_4, rr_57_5, rr_57_6, rr_57_7, rr_57_8, rr_63_2, rr_63_3, rr_63_4, rr_63_5, rr_68_0, rr_70_1, rr_70_2, rr_74_4, rr_74_5, rr_74_6, rr_74_7, rr_74_8, rr_80_4, rr_80_5, rr_80_6, rr_80_7, rr_80_8, rr_86_2, rr_88_2, rr_90_2, rr_92_0, rr_92_1, rr_92_5, rr_92_6, rr_92_8, rr_92_9, rr_92_12, rr_92_15, rr_92_16, rr_92_17, t1, t3, v1, hq, not_true_eq_false, not_false_eq_true, ↓reduceIte, hs, b2n_f]
  · have hq : ¬ nI (tk n T s) = nI 3 := fun z => h ((nI_eq (by omega) (by omega)).mp z)
    have hs : scB n T s = false := decide_eq_false (fun z => h (by
      unfold tk
      rw [if_pos z.1, z.2]
      rfl))
    simp (disch := first | assumption | exact bz0 | exact bz1 | exact bzi | omega | decide +kernel) only [I_38_0, I_38_1, I_38_4, I_38_5, I_38_8, I_38_9, I_38_12, I_38_13, I_38_16, I_38_17, I_38_19, I_38_22, I_38_23, I_38_26, I_38_27, rr_0_0, rr_0_1, rr_0_2, rr_0_3, rr_0_4, rr_0_5, rr_0_6, rr_0_7, rr_0_8, rr_1_0, rr_1_1, rr_1_2, rr_1_3, rr_2_4, rr_2_5, rr_2_6, rr_2_7, rr_2_8, rr_13_0, rr_15_4, rr_15_5, rr_15_6, rr_15_7, rr_15_8, rr_21_4, rr_21_5, rr_21_6, rr_21_7, rr_21_8, rr_27_4, rr_27_5, rr_27_6, rr_27_7, rr_27_8, rr_33_4, rr_33_5, rr_33_6, rr_33_7, rr_33_8, rr_39_4, rr_39_5, rr_39_6, rr_39_7, rr_39_8, rr_45_4, rr_45_5, rr_45_6, rr_45_7, rr_45_8, rr_51_4, rr_51_5, rr_51_6, rr_51_7, rr_51_8, rr_57_4, rr_57_5, rr_57_6, rr_57_7, rr_57_8, rr_63_2, rr_63_3, rr_63_4, rr_63_5, rr_68_0, rr_70_1, rr_70_2, rr_74_4, rr_74_5, rr_74_6, rr_74_7, rr_74_8, rr_80_4, rr_80_5, rr_80_6, rr_80_7, rr_80_8, rr_86_2, rr_88_2, rr_90_2, rr_92_0, rr_92_1, rr_92_5, rr_92_6, rr_92_8, rr_92_9, rr_92_12, rr_92_15, rr_92_16, rr_92_17, t3, hq, not_false_eq_true, ↓reduceIte, hs, b2n_f]
theorem vF_dig {T : Nat → Nat} {s e : Nat} (hd : ∀ i, s ≤ i → i < e → kd (T i) = 2) (h2 : e - s ≤ 2) (hse : s ≤ e) : vF T (e - s) s 0 ≤ 99 := by
  have h : e = s ∨ e = s + 1 ∨ e = s + 2 := by omega
  rcases h with rfl | rfl | rfl
  · rw [Nat.sub_self]; exact Nat.zero_le _
  · have d1 := kd_2.mp (hd s (by omega) (by omega))
    rw [Nat.add_sub_cancel_left]
    show 10 * 0 + T s - 48 ≤ 99
    omega
  · have d1 := kd_2.mp (hd s (by omega) (by omega))
    have d2 := kd_2.mp (hd (s + 1) (by omega) (by omega))
    rw [Nat.add_sub_cancel_left]
    show 10 * (10 * 0 + T s - 48) + T (s + 1) - 48 ≤ 99
    omega
theorem L_number (E : ip_E) {σ : ip_G} {n : Nat} {T : Nat → Nat} {s e : Nat} (hT : TX σ n T s e) (hen : e ≤ n) (hd : ∀ i, s ≤ i → i < e → kd (T i) = 2) (κ : Option Value → ip_G → Prop) : ∀ (m i v : Nat), i + m = e → s ≤ i → wp E 35 25 [.ref 68, .int (nI v), .int (nI i)] [] σ κ = κ (some (.int (nI (vF T m i v)))) σ := by
  obtain ⟨t0, t1, t2, t3⟩ := hT
  have hn := t0.2.1
  intro m
  induction m with
  | zero =>
    intro i v hi hs
    have hc : nI e ≤ nI i := nI_le (by omega) (by omega)
    simp (disch := first | assumption | exact bz0 | exact bz1 | exact bzi | omega | decide +kernel) only [I_35_0, I_35_1, I_35_4, I_35_5, I_35_8, I_35_9, I_35_12, I_35_13, I_35_16, I_35_17, I_35_18, I_35_19, I_35_20, I_35_21, I_35_24, I_35_25, I_35_26, I_35_27, I_35_30, I_35_33, I_35_35, I_35_36, I_35_37, I_35_38, I_35_41, I_35_42, I_35_43, I_35_44, I_35_46, I_35_47, I_35_48, I_35_51, I_35_54, I_35_55, t2, hc, ↓reduceIte, vF]
  | succ m ih =>
    intro i v hi hs
    have hc : ¬ nI e ≤ nI i := nI_ge (by omega) (by omega)
    obtain ⟨v1, v2⟩ := t0.2.2 i (by omega)
    have d1 := kd_2.mp (hd i hs (by omega))
    rw [I_35_25]
    simp (disch := first | assumption | exact bz0 | exact bz1 | exact bzi | omega | decide +kernel) only [I_35_0, I_35_1, I_35_4, I_35_5, I_35_8, I_35_9, I_35_12, I_35_13, I_35_16, I_35_17, I_35_18, I_35_19, I_35_20, I_35_21, I_35_24, I_35_26, I_35_27, I_35_30, I_35_33, I_35_35, I_35_36, I_35_37, I_35_38, I_35_41, I_35_42, I_35_43, I_35_44, I_35_46, I_35_47, I_35_48, I_35_51, I_35_54, I_35_55, rr_0_0, rr_0_1, rr_0_2, rr_0_3, rr_0_4, rr_0_5, rr_0_6, rr_0_7, rr_0_8, rr_1_0, rr_1_1, rr_1_2, rr_1_3, rr_2_4, rr_2_5, rr_2_6, rr_2_7, rr_2_8, rr_13_0, rr_15_4, rr_15_5, rr_15_6, rr_15_7, rr_15_8, rr_21_4, rr_21_5, rr_21_6, rr_21_7, rr_21_8, rr_27_4, rr_27_5, rr_27_6, rr_27_7, rr_27_8, rr_33_4, rr_33_5, rr_33_6, rr_33_7, rr_33_8, rr_39_4, rr_39_5, rr_39_6, rr_39_7, rr_39_8, rr_45_4, rr_45_5, rr_45_6, rr_45_7, rr_45_8, rr_51_4, rr_51_5, rr_51_6, rr_51_7, rr_51_8, rr_57_4, rr_57_5, rr_57_6, rr_57_7, rr_57_8, rr_63_2, rr_63_3, rr_63_4, rr_63_5, rr_68_0, rr_70_1, rr_70_2, rr_74_4, rr_74_5, rr_74_6, rr_74_7, rr_74_8, rr_80_4, rr_80_5, rr_80_6, rr_80_7, rr_80_8, rr_86_2, rr_88_2, rr_90_2, rr_92_0, rr_92_1, rr_92_5, rr_92_6, rr_92_8, rr_92_9, rr_92_12, rr_92_15, rr_92_16, rr_92_17, t2, hc, ↓reduceIte, v1, pk_mul, nI_add, pk_sub (show 48 ≤ 10 * v + T i by omega)]
    rw [ih (i + 1) _ (by omega) (by omega)]
    rfl
def nuB (n : Nat) (T : Nat → Nat) (s e : Nat) : Bool := decide (tk n T s = 2 ∧ e - s ≤ 2)
def nuV (T : Nat → Nat) (s e : Nat) : Nat := vF T (e - s) s 0
theorem c_number (E : ip_E) {σ : ip_G} {n : Nat} {T : Nat → Nat} {s e : Nat} (hT : TX σ n T s e) (he : e = enS n T s) (hsn : s ≤ n) (κ : Option Value → ip_G → Prop) : wp E 35 0 [.ref 68, .retAddr 0, .retAddr 0] [] σ κ = κ (some (.int (if nuB n T s e = true then nI (nuV T s e) else -1))) σ := by
  have hT0 := hT
  obtain ⟨t0, t1, t2, t3⟩ := hT
  have tl := tk_le n T s
  have hn := t0.2.1
  have el := enS_le (T := T) hsn
  rw [← he] at el
  by_cases h : tk n T s = 2
  · obtain ⟨l1, l2⟩ := tk_lt (show tk n T s ≠ 0 by omega)
    rw [h] at t3
    by_cases h2 : e - s ≤ 2
    · have hq : nI (e - s) ≤ nI 2 := nI_le h2 (by omega)
      have hb : nuB n T s e = true := decide_eq_true ⟨h, h2⟩
      simp (disch := first | assumption | exact bz0 | exact bz1 | exact bzi | omega | decide +kernel) only [I_35_0, I_35_1, I_35_4, I_35_5, I_35_8, I_35_9, I_35_12, I_35_13, I_35_16, I_35_17, I_35_18, I_35_19, I_35_20, I_35_21, I_35_24, I_35_26, I_35_27, I_35_30, I_35_33, I_35_35, I_35_36, I_35_37, I_35_38, I_35_41, I_35_42, I_35_43, I_35_44, I_35_46, I_35_47, I_35_48, I_35_51, I_35_54, I_35_55, t1, t3, not_true_eq_false, ↓reduceIte, c_size E hT0 (show s ≤ e by omega), Option.toList_some, List.cons_append, List.nil_append, hq, hb]
      rw [L_number E hT0 el.2 (fun i a b => by rw [enS_kd a (by rw [← he]; exact b), ← l2]; exact h) κ (e - s) s 0 (by omega) (Nat.le_refl _)]
      rfl
    · have hq : ¬ nI (e - s) ≤ nI 2 := nI_ge (by omega) (by omega)
      have hb : nuB n T s e = false := decide_eq_false (fun z => h2 z.2)
      simp (disch := first | assumption | exact bz0 | exact bz1 | exact bzi | omega | decide +kernel) only [I_35_0, I_35_1, I_35_4, I_35_5, I_35_8, I_35_9, I_35_12, I_35_13, I_35_16, I_35_17, I_35_18, I_35_19, I_35_20, I_35_21, I_35_24, I_35_26, I_35_27, I_35_30, I_35_33, I_35_35, I_35_36, I_35_37, I_35_38, I_35_41, I_35_42, I_35_43, I_35_44, I_35_46, I_35_47, I_35_48, I_35_51, I_35_54, I_35_55, t1, t3, not_true_eq_false, ↓reduceIte, c_size E hT0 (show s ≤ e by omega), Option.toList_some, List.cons_append, List.nil_append, hq, hb, Bool.false_eq_true]
  · have hq : ¬ nI (tk n T s) = nI 2 := fun z => h ((nI_eq (by omega) (by omega)).mp z)
    have hb : nuB n T s e = false := decide_eq_false (fun z => h z.1)
    simp (disch := first | assumption | exact bz0 | exact bz1 | exact bzi | omega | decide +kernel) only [I_35_0, I_35_1, I_35_4, I_35_5, I_35_8, I_35_9, I_35_12, I_35_13, I_35_16, I_35_17, I_35_18, I_35_19, I_35_20, I_35_21, I_35_24, I_35_26, I_35_27, I_35_30, I_35_33, I_35_35, I_35_36, I_35_37, I_35_38, I_35_41, I_35_42, I_35_43, I_35_44, I_35_46, I_35_47, I_35_48, I_35_51, I_35_54, I_35_55, t3, hq, not_false_eq_true, ↓reduceIte, hb, Bool.false_eq_true]
theorem L_isRow (E : ip_E) {σ : ip_G} {n : Nat} {T : Nat → Nat} {s e : Nat} (hT : TX σ n T s e) (hen : e ≤ n) (κ : Option Value → ip_G → Prop) : ∀ (m i : Nat), i + m = e → wp E 30 24 [.ref 68, .int (nI i)] [] σ κ = κ (some (.int (nI (b2n (xoF T m i))))) σ := by
  obtain ⟨t0, t1, t2, t3⟩ := hT
  have hn := t0.2.1
  intro m
  induction m with
  | zero =>
    intro i hi
    have hc : nI e ≤ nI i := nI_le (by omega) (by omega)
    simp (disch := first | assumption | exact bz0 | exact bz1 | exact bzi | omega | decide +kernel) only [I_30_0, I_30_1, I_30_4, I_30_5, I_30_8, I_30_9, I_30_12, I_30_14, I_30_17, I_30_18, I_30_19, I_30_20, I_30_23, I_30_24, I_30_25, I_30_26, I_30_29, I_30_32, I_30_33, I_30_36, I_30_37, I_30_38, I_30_40, I_30_43, I_30_44, I_30_47, I_30_48, I_30_49, I_30_51, I_30_54, I_30_55, I_30_56, I_30_59, I_30_62, I_30_63, t2, hc, ↓reduceIte, xoF, b2n_t]
  | succ m ih =>
    intro i hi
    have hc : ¬ nI e ≤ nI i := nI_ge (by omega) (by omega)
    obtain ⟨v1, v2⟩ := t0.2.2 i (by omega)
    rw [I_30_24]
    by_cases h1 : T i = 120
    · have q1 : nI (T i) = nI 120 := by rw [h1]
      simp (disch := first | assumption | exact bz0 | exact bz1 | exact bzi | omega | decide +kernel) only [I_30_0, I_30_1, I_30_4, I_30_5, I_30_8, I_30_9, I_30_12, I_30_14, I_30_17, I_30_18, I_30_19, I_30_20, I_30_23, I_30_25, I_30_26, I_30_29, I_30_32, I_30_33, I_30_36, I_30_37, I_30_38, I_30_40, I_30_43, I_30_44, I_30_47, I_30_48, I_30_49, I_30_51, I_30_54, I_30_55, I_30_56, I_30_59, I_30_62, I_30_63, rr_0_0, rr_0_1, rr_0_2, rr_0_3, rr_0_4, rr_0_5, rr_0_6, rr_0_7, rr_0_8, rr_1_0, rr_1_1, rr_1_2, rr_1_3, rr_2_4, rr_2_5, rr_2_6, rr_2_7, rr_2_8, rr_13_0, rr_15_4, rr_15_5, rr_15_6, rr_15_7, rr_15_8, rr_21_4, rr_21_5, rr_21_6, rr_21_7, rr_21_8, rr_27_4, rr_27_5, rr_27_6, rr_27_7, rr_27_8, rr_33_4, rr_33_5, rr_33_6, rr_33_7, rr_33_8, rr_39_4, rr_39_5, rr_39_6, rr_39_7, rr_39_8, rr_45_4, rr_45_5, rr_45_6, rr_45_7, rr_45_8, rr_51_4, rr_51_5, rr_51_6, rr_51_7, rr_51_8, rr_57_4, rr_57_5, rr_57_6, rr_57_7, rr_57_8, rr_63_2, rr_63_3, rr_63_4, rr_63_5, rr_68_0, rr_70_1, rr_70_2, rr_74_4, rr_74_5, rr_74_6, rr_74_7, rr_74_8, rr_80_4, rr_80_5, rr_80_6, rr_80_7, rr_80_8, rr_86_2, rr_88_2, rr_90_2, rr_92_0, rr_92_1, rr_92_5, rr_92_6, rr_92_8, rr_92_9, rr_92_12, rr_92_15, rr_92_16, rr_92_17, t2, hc, ↓reduceIte, v1, q1, nI_add]
      rw [ih (i + 1) (by omega)]
      simp only [xoF, h1, true_or, ↓reduceIte]
    · have q1 : ¬ nI (T i) = nI 120 := fun z => h1 ((nI_eq (by omega) (by omega)).mp z)
      by_cases h2 : T i = 111
      · have q2 : nI (T i) = nI 111 := by rw [h2]
        simp (disch := first | assumption | exact bz0 | exact bz1 | exact bzi | omega | decide +kernel) only [I_30_0, I_30_1, I_30_4, I_30_5, I_30_8, I_30_9, I_30_12, I_30_14, I_30_17, I_30_18, I_30_19, I_30_20, I_30_23, I_30_25, I_30_26, I_30_29, I_30_32, I_30_33, I_30_36, I_30_37, I_30_38, I_30_40, I_30_43, I_30_44, I_30_47, I_30_48, I_30_49, I_30_51, I_30_54, I_30_55, I_30_56, I_30_59, I_30_62, I_30_63, rr_0_0, rr_0_1, rr_0_2, rr_0_3, rr_0_4, rr_0_5, rr_0_6, rr_0_7, rr_0_8, rr_1_0, rr_1_1, rr_1_2, rr_1_3, rr_2_4, rr_2_5, rr_2_6, rr_2_7, rr_2_8, rr_13_0, rr_15_4, rr_15_5, rr_15_6, rr_15_7, rr_15_8, rr_21_4, rr_21_5, rr_21_6, rr_21_7, rr_21_8, rr_27_4, rr_27_5, rr_27_6, rr_27_7, rr_27_8, rr_33_4, rr_33_5, rr_33_6, rr_33_7, rr_33_8, rr_39_4, rr_39_5, rr_39_6, rr_39_7, rr_39_8, rr_45_4, rr_45_5, rr_45_6, rr_45_7, rr_45_8, rr_51_4, rr_51_5, rr_51_6, rr_51_7, rr_51_8, rr_57_4, rr_57_5, rr_57_6, rr_57_7, rr_57_8, rr_63_2, rr_63_3, rr_63_4, rr_63_5, rr_68_0, rr_70_1, rr_70_2, rr_74_4, rr_74_5, rr_74_6, rr_74_7, rr_74_8, rr_80_4, rr_80_5, rr_80_6, rr_80_7, rr_80_8, rr_86_2, rr_88_2, rr_90_2, rr_92_0, rr_92_1, rr_92_5, rr_92_6, rr_92_8, rr_92_9, rr_92_12, rr_92_15, rr_92_16, rr_92_17, t2, hc, ↓reduceIte, v1, q1, nI_add]
        simp (disch := first | assumption | exact bz0 | exact bz1 | exact bzi | omega | decide +kernel) only [I_30_0, I_30_1, I_30_4, I_30_5, I_30_8, I_30_9, I_30_12, I_30_14, I_30_17, I_30_18, I_30_19, I_30_20, I_30_23, I_30_25, I_30_26, I_30_29, I_30_32, I_30_33, I_30_36, I_30_37, I_30_38, I_30_40, I_30_43, I_30_44, I_30_47, I_30_48, I_30_49, I_30_51, I_30_54, I_30_55, I_30_56, I_30_59, I_30_62, I_30_63, q2, ↓reduceIte, nI_add]
        rw [ih (i + 1) (by omega)]
        simp only [xoF, h2, or_true, ↓reduceIte]
      · have q2 : ¬ nI (T i) = nI 111 := fun z => h2 ((nI_eq (by omega) (by omega)).mp z)
        simp (disch := first | assumption | exact bz0 | exact bz1 | exact bzi | omega | decide +kernel) only [I_30_0, I_30_1, I_30_4, I_30_5, I_30_8, I_30_9, I_30_12, I_30_14, I_30_17, I_30_18, I_30_19, I_30_20, I_30_23, I_30_25, I_30_26, I_30_29, I_30_32, I_30_33, I_30_36, I_30_37, I_30_38, I_30_40, I_30_43, I_30_44, I_30_47, I_30_48, I_30_49, I_30_51, I_30_54, I_30_55, I_30_56, I_30_59, I_30_62, I_30_63, rr_0_0, rr_0_1, rr_0_2, rr_0_3, rr_0_4, rr_0_5, rr_0_6, rr_0_7, rr_0_8, rr_1_0, rr_1_1, rr_1_2, rr_1_3, rr_2_4, rr_2_5, rr_2_6, rr_2_7, rr_2_8, rr_13_0, rr_15_4, rr_15_5, rr_15_6, rr_15_7, rr_15_8, rr_21_4, rr_21_5, rr_21_6, rr_21_7, rr_21_8, rr_27_4, rr_27_5, rr_27_6, rr_27_7, rr_27_8, rr_33_4, rr_33_5, rr_33_6, rr_33_7, rr_33_8, rr_39_4, rr_39_5, rr_39_6, rr_39_7, rr_39_8, rr_45_4, rr_45_5, rr_45_6, rr_45_7, rr_45_8, rr_51_4, rr_51_5, rr_51_6, rr_51_7, rr_51_8, rr_57_4, rr_57_5, rr_57_6, rr_57_7, rr_57_8, rr_63_2, rr_63_3, rr_63_4, rr_63_5, rr_68_0, rr_70_1, rr_70_2, rr_74_4, rr_74_5, rr_74_6, rr_74_7, rr_74_8, rr_80_4, rr_80_5, rr_80_6, rr_80_7, rr_80_8, rr_86_2, rr_88_2, rr_90_2, rr_92_0, rr_92_1, rr_92_5, rr_92_6, rr_92_8, rr_92_9, rr_92_12, rr_92_15, rr_92_16, rr_92_17, t2, hc, ↓reduceIte, v1, q1, q2, xoF, h1, h2, or_self, b2n_f]
def rowB (n : Nat) (T : Nat → Nat) (s e : Nat) : Bool := if tk n T s = 1 ∧ e - s ≤ 12 then xoF T (e - s) s else false
theorem c_isRow (E : ip_E) {σ : ip_G} {n : Nat} {T : Nat → Nat} {s e : Nat} (hT : TX σ n T s e) (hse : s ≤ e) (hen : e ≤ n) (κ : Option Value → ip_G → Prop) : wp E 30 0 [.ref 68, .retAddr 0] [] σ κ = κ (some (.int (nI (b2n (rowB n T s e))))) σ := by
  have hT0 := hT
  obtain ⟨t0, t1, t2, t3⟩ := hT
  have tl := tk_le n T s
  have hn := t0.2.1
  by_cases h : tk n T s = 1
  · rw [h] at t3
    by_cases h2 : e - s ≤ 12
    · have hq : nI (e - s) ≤ nI 12 := nI_le h2 (by omega)
      have hb : rowB n T s e = xoF T (e - s) s := if_pos ⟨h, h2⟩
      simp (disch := first | assumption | exact bz0 | exact bz1 | exact bzi | omega | decide +kernel) only [I_30_0, I_30_1, I_30_4, I_30_5, I_30_8, I_30_9, I_30_12, I_30_14, I_30_17, I_30_18, I_30_19, I_30_20, I_30_23, I_30_25, I_30_26, I_30_29, I_30_32, I_30_33, I_30_36, I_30_37, I_30_38, I_30_40, I_30_43, I_30_44, I_30_47, I_30_48, I_30_49, I_30_51, I_30_54, I_30_55, I_30_56, I_30_59, I_30_62, I_30_63, t1, t3, not_true_eq_false, ↓reduceIte, c_size E hT0 hse, Option.toList_some, List.cons_append, List.nil_append, hq, hb]
      exact L_isRow E hT0 hen κ (e - s) s (by omega)
    · have hq : ¬ nI (e - s) ≤ nI 12 := nI_ge (by omega) (by omega)
      have hb : rowB n T s e = false := if_neg (fun z => h2 z.2)
      simp (disch := first | assumption | exact bz0 | exact bz1 | exact bzi | omega | decide +kernel) only [I_30_0, I_30_1, I_30_4, I_30_5, I_30_8, I_30_9, I_30_12, I_30_14, I_30_17, I_30_18, I_30_19, I_30_20, I_30_23, I_30_25, I_30_26, I_30_29, I_30_32, I_30_33, I_30_36, I_30_37, I_30_38, I_30_40, I_30_43, I_30_44, I_30_47, I_30_48, I_30_49, I_30_51, I_30_54, I_30_55, I_30_56, I_30_59, I_30_62, I_30_63, t1, t3, not_true_eq_false, ↓reduceIte, c_size E hT0 hse, Option.toList_some, List.cons_append, List.nil_append, hq, hb, b2n_f]
  · have hq : ¬ nI (tk n T s) = nI 1 := fun z => h ((nI_eq (by omega) (by omega)).mp z)
    have hb : rowB n T s e = false := if_neg (fun z => h z.1)
    simp (disch := first | assumption | exact bz0 | exact bz1 | exact bzi | omega | decide +kernel) only [I_30_0, I_30_1, I_30_4, I_30_5, I_30_8, I_30_9, I_30_12, I_30_14, I_30_17, I_30_18, I_30_19, I_30_20, I_30_23, I_30_25, I_30_26, I_30_29, I_30_32, I_30_33, I_30_36, I_30_37, I_30_38, I_30_40, I_30_43, I_30_44, I_30_47, I_30_48, I_30_49, I_30_51, I_30_54, I_30_55, I_30_56, I_30_59, I_30_62, I_30_63, t3, hq, not_false_eq_true, ↓reduceIte, hb, b2n_f]
theorem L_crosses (E : ip_E) {σ : ip_G} {n : Nat} {T : Nat → Nat} {s e : Nat} (hT : TX σ n T s e) (hen : e ≤ n) (h12 : e - s ≤ 12) (κ : Option Value → ip_G → Prop) : ∀ (m k : Nat), s + k + m = e → wp E 31 7 [.ref 68, .int (nI (bits (cbF T s) k)), .int (nI (s + k))] [] σ κ = κ (some (.int (nI (bits (cbF T s) (e - s))))) σ := by
  obtain ⟨t0, t1, t2, t3⟩ := hT
  have hn := t0.2.1
  intro m
  induction m with
  | zero =>
    intro k hk
    have hc : nI e ≤ nI (s + k) := nI_le (by omega) (by omega)
    have : k = e - s := by omega
    simp (disch := first | assumption | exact bz0 | exact bz1 | exact bzi | omega | decide +kernel) only [I_31_0, I_31_1, I_31_2, I_31_3, I_31_6, I_31_7, I_31_8, I_31_9, I_31_12, I_31_15, I_31_16, I_31_19, I_31_20, I_31_21, I_31_23, I_31_26, I_31_27, I_31_28, I_31_29, I_31_30, I_31_33, I_31_34, I_31_35, I_31_36, I_31_37, I_31_40, I_31_43, I_31_44, t2, hc, ↓reduceIte]
    rw [this]
  | succ m ih =>
    intro k hk
    have hc : ¬ nI e ≤ nI (s + k) := nI_ge (by omega) (by omega)
    obtain ⟨v1, v2⟩ := t0.2.2 (s + k) (by omega)
    have ih1 := ih (k + 1) (by omega)
    have e1 : bits (cbF T s) (k + 1) = bits (cbF T s) k ||| (if decide (T (s + k) = 120) = true then 2 ^ k else 0) := rfl
    rw [e1, show s + (k + 1) = s + k + 1 by omega] at ih1
    rw [I_31_7]
    by_cases h1 : T (s + k) = 120
    · have q1 : nI (T (s + k)) = nI 120 := by rw [h1]
      simp only [h1, decide_true, ↓reduceIte] at ih1
      simp (disch := first | assumption | exact bz0 | exact bz1 | exact bzi | omega | decide +kernel) only [I_31_0, I_31_1, I_31_2, I_31_3, I_31_6, I_31_8, I_31_9, I_31_12, I_31_15, I_31_16, I_31_19, I_31_20, I_31_21, I_31_23, I_31_26, I_31_27, I_31_28, I_31_29, I_31_30, I_31_33, I_31_34, I_31_35, I_31_36, I_31_37, I_31_40, I_31_43, I_31_44, rr_0_0, rr_0_1, rr_0_2, rr_0_3, rr_0_4, rr_0_5, rr_0_6, rr_0_7, rr_0_8, rr_1_0, rr_1_1, rr_1_2, rr_1_3, rr_2_4, rr_2_5, rr_2_6, rr_2_7, rr_2_8, rr_13_0, rr_15_4, rr_15_5, rr_15_6, rr_15_7, rr_15_8, rr_21_4, rr_21_5, rr_21_6, rr_21_7, rr_21_8, rr_27_4, rr_27_5, rr_27_6, rr_27_7, rr_27_8, rr_33_4, rr_33_5, rr_33_6, rr_33_7, rr_33_8, rr_39_4, rr_39_5, rr_39_6, rr_39_7, rr_39_8, rr_45_4, rr_45_5, rr_45_6, rr_45_7, rr_45_8, rr_51_4, rr_51_5, rr_51_6, rr_51_7, rr_51_8, rr_57_4, rr_57_5, rr_57_6, rr_57_7, rr_57_8, rr_63_2, rr_63_3, rr_63_4, rr_63_5, rr_68_0, rr_70_1, rr_70_2, rr_74_4, rr_74_5, rr_74_6, rr_74_7, rr_74_8, rr_80_4, rr_80_5, rr_80_6, rr_80_7, rr_80_8, rr_86_2, rr_88_2, rr_90_2, rr_92_0, rr_92_1, rr_92_5, rr_92_6, rr_92_8, rr_92_9, rr_92_12, rr_92_15, rr_92_16, rr_92_17, t1, t2, hc, ↓reduceIte, v1, q1, not_true_eq_false, pk_sub (show s ≤ s + k by omega), Nat.add_sub_cancel_left, nI_shl1 (show k < 31 by omega), nx_or, nI_add]
      exact ih1
    · have q1 : ¬ nI (T (s + k)) = nI 120 := fun z => h1 ((nI_eq (by omega) (by omega)).mp z)
      simp only [h1, decide_false, Bool.false_eq_true, ↓reduceIte, Nat.or_zero] at ih1
      simp (disch := first | assumption | exact bz0 | exact bz1 | exact bzi | omega | decide +kernel) only [I_31_0, I_31_1, I_31_2, I_31_3, I_31_6, I_31_8, I_31_9, I_31_12, I_31_15, I_31_16, I_31_19, I_31_20, I_31_21, I_31_23, I_31_26, I_31_27, I_31_28, I_31_29, I_31_30, I_31_33, I_31_34, I_31_35, I_31_36, I_31_37, I_31_40, I_31_43, I_31_44, rr_0_0, rr_0_1, rr_0_2, rr_0_3, rr_0_4, rr_0_5, rr_0_6, rr_0_7, rr_0_8, rr_1_0, rr_1_1, rr_1_2, rr_1_3, rr_2_4, rr_2_5, rr_2_6, rr_2_7, rr_2_8, rr_13_0, rr_15_4, rr_15_5, rr_15_6, rr_15_7, rr_15_8, rr_21_4, rr_21_5, rr_21_6, rr_21_7, rr_21_8, rr_27_4, rr_27_5, rr_27_6, rr_27_7, rr_27_8, rr_33_4, rr_33_5, rr_33_6, rr_33_7, rr_33_8, rr_39_4, rr_39_5, rr_39_6, rr_39_7, rr_39_8, rr_45_4, rr_45_5, rr_45_6, rr_45_7, rr_45_8, rr_51_4, rr_51_5, rr_51_6, rr_51_7, rr_51_8, rr_57_4, rr_57_5, rr_57_6, rr_57_7, rr_57_8, rr_63_2, rr_63_3, rr_63_4, rr_63_5, rr_68_0, rr_70_1, rr_70_2, rr_74_4, rr_74_5, rr_74_6, rr_74_7, rr_74_8, rr_80_4, rr_80_5, rr_80_6, rr_80_7, rr_80_8, rr_86_2, rr_88_2, rr_90_2, rr_92_0, rr_92_1, rr_92_5, rr_92_6, rr_92_8, rr_92_9, rr_92_12, rr_92_15, rr_92_16, rr_92_17, t1, t2, hc, ↓reduceIte, v1, q1, not_false_eq_true, nI_add]
      exact ih1
theorem c_crosses (E : ip_E) {σ : ip_G} {n : Nat} {T : Nat → Nat} {s e : Nat} (hT : TX σ n T s e) (hse : s ≤ e) (hen : e ≤ n) (h12 : e - s ≤ 12) (κ : Option Value → ip_G → Prop) : wp E 31 0 [.ref 68, .retAddr 0, .retAddr 0] [] σ κ = κ (some (.int (nI (bits (cbF T s) (e - s))))) σ := by
  simp (disch := first | assumption | exact bz0 | exact bz1 | exact bzi | omega | decide +kernel) only [I_31_0, I_31_1, I_31_2, I_31_3, I_31_6, I_31_8, I_31_9, I_31_12, I_31_15, I_31_16, I_31_19, I_31_20, I_31_21, I_31_23, I_31_26, I_31_27, I_31_28, I_31_29, I_31_30, I_31_33, I_31_34, I_31_35, I_31_36, I_31_37, I_31_40, I_31_43, I_31_44, hT.2.1]
  exact L_crosses E hT hen h12 κ (e - s) 0 (by omega)
theorem L_isWord (E : ip_E) (hE : ip_fok2 E.2.2) {σ : ip_G} {n : Nat} {T : Nat → Nat} {s e w : Nat} (hw : w < 8) (hT : TX σ n T s e) (hen : e ≤ n) (hl : e - s = wl w) (κ : Option Value → ip_G → Prop) : ∀ (m k : Nat), k + m = wl w → wp E 20 23 [.ref 68, .ref (2000000 + w), .int (nI k)] [] σ κ = κ (some (.int (nI (b2n (lwF T w s m k))))) σ := by
  obtain ⟨t0, t1, t2, t3⟩ := hT
  have hn := t0.2.1
  have w5 := wl_le w hw
  intro m
  induction m with
  | zero =>
    intro k hk
    have hc : nI (wl w) ≤ nI k := nI_le (by omega) (by omega)
    simp (disch := first | assumption | exact bz0 | exact bz1 | exact bzi | omega | decide +kernel) only [I_20_0, I_20_1, I_20_4, I_20_5, I_20_8, I_20_9, I_20_12, I_20_16, I_20_19, I_20_20, I_20_21, I_20_22, I_20_23, I_20_24, I_20_28, I_20_31, I_20_32, I_20_35, I_20_36, I_20_39, I_20_40, I_20_41, I_20_42, I_20_43, I_20_47, I_20_50, I_20_51, I_20_52, I_20_55, I_20_58, I_20_59, S_20_25, S_20_13, S_20_44, c_len E hw, Option.toList_some, List.cons_append, List.nil_append, hc, ↓reduceIte, lwF, b2n_t]
  | succ m ih =>
    intro k hk
    have hc : ¬ nI (wl w) ≤ nI k := nI_ge (by omega) (by omega)
    obtain ⟨v1, v2⟩ := t0.2.2 (s + k) (by omega)
    have c3 := (wc_ch w hw k (by omega)).2.2
    rw [I_20_23]
    by_cases h : T (s + k) = wc w k
    · have q1 : nI (T (s + k)) = nI (wc w k) := by rw [h]
      simp (disch := first | assumption | exact bz0 | exact bz1 | exact bzi | omega | decide +kernel) only [I_20_0, I_20_1, I_20_4, I_20_5, I_20_8, I_20_9, I_20_12, I_20_16, I_20_19, I_20_20, I_20_21, I_20_22, I_20_24, I_20_28, I_20_31, I_20_32, I_20_35, I_20_36, I_20_39, I_20_40, I_20_41, I_20_42, I_20_43, I_20_47, I_20_50, I_20_51, I_20_52, I_20_55, I_20_58, I_20_59, S_20_25, S_20_13, S_20_44, rr_0_0, rr_0_1, rr_0_2, rr_0_3, rr_0_4, rr_0_5, rr_0_6, rr_0_7, rr_0_8, rr_1_0, rr_1_1, rr_1_2, rr_1_3, rr_2_4, rr_2_5, rr_2_6, rr_2_7, rr_2_8, rr_13_0, rr_15_4, rr_15_5, rr_15_6, rr_15_7, rr_15_8, rr_21_4, rr_21_5, rr_21_6, rr_21_7, rr_21_8, rr_27_4, rr_27_5, rr_27_6, rr_27_7, rr_27_8, rr_33_4, rr_33_5, rr_33_6, rr_33_7, rr_33_8, rr_39_4, rr_39_5, rr_39_6, rr_39_7, rr_39_8, rr_45_4, rr_45_5, rr_45_6, rr_45_7, rr_45_8, rr_51_4, rr_51_5, rr_51_6, rr_51_7, rr_51_8, rr_57_4, rr_57_5, rr_57_6, rr_57_7, rr_57_8, rr_63_2, rr_63_3, rr_63_4, rr_63_5, rr_68_0, rr_70_1, rr_70_2, rr_74_4, rr_74_5, rr_74_6, rr_74_7, rr_74_8, rr_80_4, rr_80_5, rr_80_6, rr_80_7, rr_80_8, rr_86_2, rr_88_2, rr_90_2, rr_92_0, rr_92_1, rr_92_5, rr_92_6, rr_92_8, rr_92_9, rr_92_12, rr_92_15, rr_92_16, rr_92_17, c_len E hw, c_charAt E hE hw (show k < wl w by omega), Option.toList_some, List.cons_append, List.nil_append, hc, ↓reduceIte, t1, nI_add, v1, q1]
      rw [ih (k + 1) (by omega)]
      simp only [lwF, h, ↓reduceIte]
    · have q1 : ¬ nI (T (s + k)) = nI (wc w k) := fun z => h ((nI_eq (by omega) (by omega)).mp z)
      simp (disch := first | assumption | exact bz0 | exact bz1 | exact bzi | omega | decide +kernel) only [I_20_0, I_20_1, I_20_4, I_20_5, I_20_8, I_20_9, I_20_12, I_20_16, I_20_19, I_20_20, I_20_21, I_20_22, I_20_24, I_20_28, I_20_31, I_20_32, I_20_35, I_20_36, I_20_39, I_20_40, I_20_41, I_20_42, I_20_43, I_20_47, I_20_50, I_20_51, I_20_52, I_20_55, I_20_58, I_20_59, S_20_25, S_20_13, S_20_44, rr_0_0, rr_0_1, rr_0_2, rr_0_3, rr_0_4, rr_0_5, rr_0_6, rr_0_7, rr_0_8, rr_1_0, rr_1_1, rr_1_2, rr_1_3, rr_2_4, rr_2_5, rr_2_6, rr_2_7, rr_2_8, rr_13_0, rr_15_4, rr_15_5, rr_15_6, rr_15_7, rr_15_8, rr_21_4, rr_21_5, rr_21_6, rr_21_7, rr_21_8, rr_27_4, rr_27_5, rr_27_6, rr_27_7, rr_27_8, rr_33_4, rr_33_5, rr_33_6, rr_33_7, rr_33_8, rr_39_4, rr_39_5, rr_39_6, rr_39_7, rr_39_8, rr_45_4, rr_45_5, rr_45_6, rr_45_7, rr_45_8, rr_51_4, rr_51_5, rr_51_6, rr_51_7, rr_51_8, rr_57_4, rr_57_5, rr_57_6, rr_57_7, rr_57_8, rr_63_2, rr_63_3, rr_63_4, rr_63_5, rr_68_0, rr_70_1, rr_70_2, rr_74_4, rr_74_5, rr_74_6, rr_74_7, rr_74_8, rr_80_4, rr_80_5, rr_80_6, rr_80_7, rr_80_8, rr_86_2, rr_88_2, rr_90_2, rr_92_0, rr_92_1, rr_92_5, rr_92_6, rr_92_8, rr_92_9, rr_92_12, rr_92_15, rr_92_16, rr_92_17, c_len E hw, c_charAt E hE hw (show k < wl w by omega), Option.toList_some, List.cons_append, List.nil_append, hc, ↓reduceIte, t1, nI_add, v1, q1, lwF, h, b2n_f]
theorem c_isWord (E : ip_E) (hE : ip_fok2 E.2.2) {σ : ip_G} {n : Nat} {T : Nat → Nat} {s e w : Nat} (hw : w < 8) (hT : TX σ n T s e) (hse : s ≤ e) (hen : e ≤ n) (κ : Option Value → ip_G → Prop) : wp E 20 0 [.ref 68, .ref (2000000 + w), .retAddr 0] [] σ κ = κ (some (.int (nI (b2n (wdB n T s e w))))) σ := by
  have hT0 := hT
  obtain ⟨t0, t1, t2, t3⟩ := hT
  have hn := t0.2.1
  have tl := tk_le n T s
  have w5 := wl_le w hw
  by_cases h : tk n T s = 1
  · rw [h] at t3
    by_cases h2 : e - s = wl w
    · have hq : nI (e - s) = nI (wl w) := by rw [h2]
      have hb : wdB n T s e w = lwF T w s (wl w) 0 := if_pos ⟨h, h2⟩
      simp (disch := first | assumption | exact bz0 | exact bz1 | exact bzi | omega | decide +kernel) only [I_20_0, I_20_1, I_20_4, I_20_5, I_20_8, I_20_9, I_20_12, I_20_16, I_20_19, I_20_20, I_20_21, I_20_22, I_20_24, I_20_28, I_20_31, I_20_32, I_20_35, I_20_36, I_20_39, I_20_40, I_20_41, I_20_42, I_20_43, I_20_47, I_20_50, I_20_51, I_20_52, I_20_55, I_20_58, I_20_59, S_20_25, S_20_13, S_20_44, t3, not_true_eq_false, ↓reduceIte, c_size E hT0 hse, c_len E hw, Option.toList_some, List.cons_append, List.nil_append, hq, hb]
      exact L_isWord E hE hw hT0 hen h2 κ (wl w) 0 (by omega)
    · have hq : ¬ nI (e - s) = nI (wl w) := fun z => h2 ((nI_eq (by omega) (by omega)).mp z)
      have hb : wdB n T s e w = false := if_neg (fun z => h2 z.2)
      simp (disch := first | assumption | exact bz0 | exact bz1 | exact bzi | omega | decide +kernel) only [I_20_0, I_20_1, I_20_4, I_20_5, I_20_8, I_20_9, I_20_12, I_20_16, I_20_19, I_20_20, I_20_21, I_20_22, I_20_24, I_20_28, I_20_31, I_20_32, I_20_35, I_20_36, I_20_39, I_20_40, I_20_41, I_20_42, I_20_43, I_20_47, I_20_50, I_20_51, I_20_52, I_20_55, I_20_58, I_20_59, S_20_25, S_20_13, S_20_44, t3, not_true_eq_false, ↓reduceIte, c_size E hT0 hse, c_len E hw, Option.toList_some, List.cons_append, List.nil_append, hq, hb, b2n_f]
  · have hq : ¬ nI (tk n T s) = nI 1 := fun z => h ((nI_eq (by omega) (by omega)).mp z)
    have hb : wdB n T s e w = false := if_neg (fun z => h z.1)
    simp (disch := first | assumption | exact bz0 | exact bz1 | exact bzi | omega | decide +kernel) only [I_20_0, I_20_1, I_20_4, I_20_5, I_20_8, I_20_9, I_20_12, I_20_16, I_20_19, I_20_20, I_20_21, I_20_22, I_20_24, I_20_28, I_20_31, I_20_32, I_20_35, I_20_36, I_20_39, I_20_40, I_20_41, I_20_42, I_20_43, I_20_47, I_20_50, I_20_51, I_20_52, I_20_55, I_20_58, I_20_59, S_20_25, S_20_13, S_20_44, t3, hq, not_false_eq_true, ↓reduceIte, hb, b2n_f]
theorem c_wordOf (E : ip_E) {w : Nat} (hw : w < 8) (σ : ip_G) (κ : Option Value → ip_G → Prop) : wp E 19 0 [.int (nI w)] [] σ κ = κ (some (.ref (2000000 + w))) σ := by
  have h : w = 0 ∨ w = 1 ∨ w = 2 ∨ w = 3 ∨ w = 4 ∨ w = 5 ∨ w = 6 ∨ w = 7 := by omega
  rcases h with rfl | rfl | rfl | rfl | rfl | rfl | rfl | rfl <;> simp (disch := first | assumption | exact bz0 | exact bz1 | exact bzi | omega | decide +kernel) only [I_19_0, I_19_1_c0, I_19_1_c1, I_19_1_c2, I_19_1_c3, I_19_1_c4, I_19_1_c5, I_19_1_c6, I_19_1_d, I_19_46, I_19_49, I_19_52, I_19_55, I_19_58, I_19_61, I_19_64, I_19_67, S_19_44, S_19_47, S_19_50, S_19_53, S_19_56, S_19_59, S_19_62, S_19_65]
theorem L_clauseKind (E : ip_E) (hE : ip_fok2 E.2.2) {σ : ip_G} {n : Nat} {T : Nat → Nat} {s e : Nat} (hT : TX σ n T s e) (hse : s ≤ e) (hen : e ≤ n) (κ : Option Value → ip_G → Prop) : ∀ (m w : Nat), w + m = 8 → wp E 18 2 [.ref 68, .int (nI w)] [] σ κ = κ (some (.int (wN (wF n T s e m w)))) σ := by
  intro m
  induction m with
  | zero =>
    intro w hw
    have hc : nI 7 < nI w := nI_lt (by omega) (by omega)
    simp (disch := first | assumption | exact bz0 | exact bz1 | exact bzi | omega | decide +kernel) only [I_18_0, I_18_1, I_18_2, I_18_3, I_18_5, I_18_8, I_18_9, I_18_10, I_18_13, I_18_16, I_18_19, I_18_20, I_18_21, I_18_24, I_18_27, I_18_28, hc, ↓reduceIte, wF, wN]
  | succ m ih =>
    intro w hw
    have hc : ¬ nI 7 < nI w := nI_nlt (by omega) (by omega)
    rw [I_18_2]
    cases h : wdB n T s e w with
    | true =>
      have h8 : ¬ w = 8 := by omega
      simp (disch := first | assumption | exact bz0 | exact bz1 | exact bzi | omega | decide +kernel) only [I_18_0, I_18_1, I_18_3, I_18_5, I_18_8, I_18_9, I_18_10, I_18_13, I_18_16, I_18_19, I_18_20, I_18_21, I_18_24, I_18_27, I_18_28, hc, ↓reduceIte, c_wordOf E (show w < 8 by omega), c_isWord E hE (show w < 8 by omega) hT hse hen, Option.toList_some, List.cons_append, List.nil_append, h, nb1, wF, wN, h8]
    | false =>
      simp (disch := first | assumption | exact bz0 | exact bz1 | exact bzi | omega | decide +kernel) only [I_18_0, I_18_1, I_18_3, I_18_5, I_18_8, I_18_9, I_18_10, I_18_13, I_18_16, I_18_19, I_18_20, I_18_21, I_18_24, I_18_27, I_18_28, hc, ↓reduceIte, c_wordOf E (show w < 8 by omega), c_isWord E hE (show w < 8 by omega) hT hse hen, Option.toList_some, List.cons_append, List.nil_append, h, nb0, nI_add]
      rw [ih (w + 1) (by omega)]
      simp only [wF, h, Bool.false_eq_true, ↓reduceIte]
theorem c_clauseKind (E : ip_E) (hE : ip_fok2 E.2.2) {σ : ip_G} {n : Nat} {T : Nat → Nat} {s e : Nat} (hT : TX σ n T s e) (hse : s ≤ e) (hen : e ≤ n) (κ : Option Value → ip_G → Prop) : wp E 18 0 [.ref 68, .retAddr 0] [] σ κ = κ (some (.int (wN (wF n T s e 8 0)))) σ := by
  simp (disch := first | assumption | exact bz0 | exact bz1 | exact bzi | omega | decide +kernel) only [I_18_0, I_18_1, I_18_3, I_18_5, I_18_8, I_18_9, I_18_10, I_18_13, I_18_16, I_18_19, I_18_20, I_18_21, I_18_24, I_18_27, I_18_28]
  exact L_clauseKind E hE hT hse hen κ 8 0 (by omega)
