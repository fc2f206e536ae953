/-! what class and reference hold alike; each call on both -/
section JJ
variable {σ σ' : ip_G} {D D' : Nat → Nat} {n n' : Nat} {P P' : Nat → Nat → Nat} {r c : Nat} {X : Nat → Nat} {kb kb' : Nat → Bool} {K K' : Nat → Nat → Nat} {l l' : Nat} {T T' : Nat → Nat} {Z Z' : Nat → Nat → Nat}
def jC (σ : ip_G) (D : Nat → Nat) (n : Nat) (P : Nat → Nat → Nat) (r c : Nat) (X : Nat → Nat) (kb : Nat → Bool) (K : Nat → Nat → Nat) (l : Nat) (T : Nat → Nat) (Z : Nat → Nat → Nat) : Prop := CD σ 2 D ∧ CP σ n P ∧ CM σ r c X ∧ CK σ kb K ∧ CT σ l T ∧ CS σ Z
def jM (σ : ip_G) (D : Nat → Nat) (n : Nat) (P : Nat → Nat → Nat) (r c : Nat) (X : Nat → Nat) (kb : Nat → Bool) (K : Nat → Nat → Nat) (l : Nat) (T : Nat → Nat) (Z : Nat → Nat → Nat) : Prop := MD σ 0 D ∧ MP σ n P ∧ MM σ r c X ∧ MK σ kb K ∧ MT σ l T ∧ MS σ Z ∧ MW σ
def jW (D : Nat → Nat) (r c : Nat) (X : Nat → Nat) (Z : Nat → Nat → Nat) : Prop := WD D ∧ WX r c X ∧ WZ Z
def jA (σ : ip_G) : Prop := ∃ D n P r c X kb K l T Z, jC σ D n P r c X kb K l T Z ∧ jM σ D n P r c X kb K l T Z ∧ jW D r c X Z
theorem jA_i (h1 : jC σ D n P r c X kb K l T Z) (h2 : jM σ D n P r c X kb K l T Z) (h3 : jW D r c X Z) : jA σ := ⟨_, _, _, _, _, _, _, _, _, _, _, h1, h2, h3⟩
theorem CS_fr (h : CS σ Z) (hf : ∀ k, 86 ≤ k → k < 92 → σ' k = σ k) : CS σ' Z := fun t ht => by
  have := h t ht
  unfold CS1 at this ⊢
  rw [hf (86 + 2 * t) (by omega) (by omega), hf (87 + 2 * t) (by omega) (by omega)]
  exact this
theorem MS_fr (h : MS σ Z) (h1 : σ' 97 = σ 97) (h2 : σ' 98 = σ 98) : MS σ' Z := fun t ht => by
  have := h t ht
  unfold MS1 at this ⊢
  rw [h1, h2]
  exact this
theorem MD_93 {o : Nat} (h : MD σ o D) (h1 : σ' 93 = σ 93) : MD σ' o D := by
  unfold MD at h ⊢
  rw [h1]
  exact h
theorem jM_fr (h : jM σ D n P r c X kb K l T Z) (hf : ∀ k, 92 ≤ k → σ' k = σ k) : jM σ' D n P r c X kb K l T Z := by
  obtain ⟨a1, a2, a3, a4, a5, a6, a7⟩ := h
  have h92 := hf 92 (by omega)
  have h93 := hf 93 (by omega)
  exact ⟨MD_93 a1 h93, MP_fr a2 (by rw [h92]) (fun j _ _ => by rw [h93]), MM_fr a3 (by rw [h92]) (by rw [h92]) (hf 94 (by omega)), MK_fr a4 (hf 95 (by omega)) (fun j _ _ => by rw [h93]), MT_fr a5 (by rw [h92]) (hf 96 (by omega)), MS_fr a6 (hf 97 (by omega)) (hf 98 (by omega)), MW_fr a7 (hf 101 (by omega))⟩
theorem jC_fr (h : jC σ D n P r c X kb K l T Z) (hf : ∀ k, k < 92 → k ≠ 8 → k ≠ 9 → k ≠ 10 → k ≠ 65 → k ≠ 66 → k ≠ 67 → σ' k = σ k) : jC σ' D n P r c X kb K l T Z := by
  obtain ⟨a1, a2, a3, a4, a5, a6⟩ := h
  have h68 := hf 68 (by omega) (by omega) (by omega) (by omega) (by omega) (by omega) (by omega)
  exact ⟨CD_fr a1 (fun k _ _ => hf k (by omega) (by omega) (by omega) (by omega) (by omega) (by omega) (by omega)), CP_fr a2 (fun k _ _ => hf k (by omega) (by omega) (by omega) (by omega) (by omega) (by omega) (by omega)), CM_fr a3 (hf 63 (by omega) (by omega) (by omega) (by omega) (by omega) (by omega) (by omega)) (hf 64 (by omega) (by omega) (by omega) (by omega) (by omega) (by omega) (by omega)), CK_fr a4 (hf 12 (by omega) (by omega) (by omega) (by omega) (by omega) (by omega) (by omega)) (fun k _ _ => hf k (by omega) (by omega) (by omega) (by omega) (by omega) (by omega) (by omega)), CT_fr a5 (by rw [h68]) (hf 69 (by omega) (by omega) (by omega) (by omega) (by omega) (by omega) (by omega)), CS_fr a6 (fun k _ _ => hf k (by omega) (by omega) (by omega) (by omega) (by omega) (by omega) (by omega))⟩
theorem jC_lo (h : jC σ D n P r c X kb K l T Z) (hf : ∀ k, k < 92 → σ' k = σ k) : jC σ' D n P r c X kb K l T Z := jC_fr h (fun k h _ _ _ _ _ _ => hf k h)
theorem jC_C (h : jC σ D n P r c X kb K l T Z) (hf : ∀ k, (k = 12 ∨ k = 63 ∨ k = 64 ∨ 68 ≤ k) → k < 92 → σ' k = σ k) (hD : CD σ' 2 D') (hP : CP σ' n' P') : jC σ' D' n' P' r c X kb K l T Z := by
  obtain ⟨a1, a2, a3, a4, a5, a6⟩ := h
  exact ⟨hD, hP, CM_fr a3 (hf 63 (by omega) (by omega)) (hf 64 (by omega) (by omega)), CK_fr a4 (hf 12 (by omega) (by omega)) (fun k _ _ => hf k (by omega) (by omega)), CT_fr a5 (by rw [hf 68 (by omega) (by omega)]) (hf 69 (by omega) (by omega)), CS_fr a6 (fun k _ _ => hf k (by omega) (by omega))⟩
theorem jM_M (h : jM σ D n P r c X kb K l T Z) (hf : ∀ k, k ≠ 92 → k ≠ 93 → k ≠ 102 → σ' k = σ k) (h92 : ∀ j, j ≠ 4 → σ' 92 j = σ 92 j) (h93 : ∀ j, 522 ≤ j → σ' 93 j = σ 93 j) (hD : MD σ' 0 D') (hP : MP σ' n' P') : jM σ' D' n' P' r c X kb K l T Z := by
  obtain ⟨a1, a2, a3, a4, a5, a6, a7⟩ := h
  exact ⟨hD, hP, MM_fr a3 (h92 2 (by omega)) (h92 3 (by omega)) (hf 94 (by omega) (by omega) (by omega)), MK_fr a4 (hf 95 (by omega) (by omega) (by omega)) (fun j h _ => h93 j h), MT_fr a5 (h92 7 (by omega)) (hf 96 (by omega) (by omega) (by omega)), MS_fr a6 (hf 97 (by omega) (by omega) (by omega)) (hf 98 (by omega) (by omega) (by omega)), MW_fr a7 (hf 101 (by omega) (by omega) (by omega))⟩
theorem jM_f (h : jM σ D n P r c X kb K l T Z) (hf : frM σ σ') (hD : MD σ' 0 D') (hP : MP σ' n' P') : jM σ' D' n' P' r c X kb K l T Z := jM_M h (fun k h1 h2 _ => hf.1 k h1 h2) hf.2.1 hf.2.2 hD hP
theorem jC_S (h : jC σ D n P r c X kb K l T Z) (hf : frS σ σ') (hS : CS σ' Z') : jC σ' D n P r c X kb K l T Z' := by
  obtain ⟨a1, a2, a3, a4, a5, a6⟩ := h
  exact ⟨CD_fr a1 (fun k _ _ => hf k (by omega)), CP_fr a2 (fun k _ _ => hf k (by omega)), CM_fr a3 (hf 63 (by omega)) (hf 64 (by omega)), CK_fr a4 (hf 12 (by omega)) (fun k _ _ => hf k (by omega)), CT_fr a5 (by rw [hf 68 (by omega)]) (hf 69 (by omega)), hS⟩
theorem jM_S (h : jM σ D n P r c X kb K l T Z) (hf : frMS σ σ') (hS : MS σ' Z') : jM σ' D n P r c X kb K l T Z' := by
  obtain ⟨a1, a2, a3, a4, a5, a6, a7⟩ := h
  have h92 := hf 92 (by omega) (by omega)
  have h93 := hf 93 (by omega) (by omega)
  exact ⟨MD_93 a1 h93, MP_fr a2 (by rw [h92]) (fun j _ _ => by rw [h93]), MM_fr a3 (by rw [h92]) (by rw [h92]) (hf 94 (by omega) (by omega)), MK_fr a4 (hf 95 (by omega) (by omega)) (fun j _ _ => by rw [h93]), MT_fr a5 (by rw [h92]) (hf 96 (by omega) (by omega)), hS, MW_fr a7 (hf 101 (by omega) (by omega))⟩
theorem jC_T (h : jC σ D n P r c X kb K l T Z) (hf : ∀ k, k ≠ 68 → k ≠ 69 → σ' k = σ k) (hT : CT σ' l' T') : jC σ' D n P r c X kb K l' T' Z := by
  obtain ⟨a1, a2, a3, a4, a5, a6⟩ := h
  exact ⟨CD_fr a1 (fun k _ _ => hf k (by omega) (by omega)), CP_fr a2 (fun k _ _ => hf k (by omega) (by omega)), CM_fr a3 (hf 63 (by omega) (by omega)) (hf 64 (by omega) (by omega)), CK_fr a4 (hf 12 (by omega) (by omega)) (fun k _ _ => hf k (by omega) (by omega)), hT, CS_fr a6 (fun k _ _ => hf k (by omega) (by omega))⟩
theorem jM_T (h : jM σ D n P r c X kb K l T Z) (hf : ∀ k, k ≠ 92 → k ≠ 96 → σ' k = σ k) (h92 : ∀ j, j ≠ 7 → σ' 92 j = σ 92 j) (hT : MT σ' l' T') : jM σ' D n P r c X kb K l' T' Z := by
  obtain ⟨a1, a2, a3, a4, a5, a6, a7⟩ := h
  have h93 := hf 93 (by omega) (by omega)
  exact ⟨MD_93 a1 h93, MP_fr a2 (h92 4 (by omega)) (fun j _ _ => by rw [h93]), MM_fr a3 (h92 2 (by omega)) (h92 3 (by omega)) (hf 94 (by omega) (by omega)), MK_fr a4 (hf 95 (by omega) (by omega)) (fun j _ _ => by rw [h93]), hT, MS_fr a6 (hf 97 (by omega) (by omega)) (hf 98 (by omega) (by omega)), MW_fr a7 (hf 101 (by omega) (by omega))⟩
theorem jC_K (h : jC σ D n P r c X kb K l T Z) (hf : ∀ k, k ≠ 12 → (k < 74 ∨ 86 ≤ k) → σ' k = σ k) (hK : CK σ' kb' K') : jC σ' D n P r c X kb' K' l T Z := by
  obtain ⟨a1, a2, a3, a4, a5, a6⟩ := h
  exact ⟨CD_fr a1 (fun k _ _ => hf k (by omega) (by omega)), CP_fr a2 (fun k _ _ => hf k (by omega) (by omega)), CM_fr a3 (hf 63 (by omega) (by omega)) (hf 64 (by omega) (by omega)), hK, CT_fr a5 (by rw [hf 68 (by omega) (by omega)]) (hf 69 (by omega) (by omega)), CS_fr a6 (fun k _ _ => hf k (by omega) (by omega))⟩
theorem jM_K (hW : WD D) (h : jM σ D n P r c X kb K l T Z) (hf : ∀ k, k ≠ 93 → k ≠ 95 → σ' k = σ k) (h93 : ∀ j, j < 522 → σ' 93 j = σ 93 j) (hK : MK σ' kb' K') : jM σ' D n P r c X kb' K' l T Z := by
  obtain ⟨a1, a2, a3, a4, a5, a6, a7⟩ := h
  have h92 := hf 92 (by omega) (by omega)
  exact ⟨MD_fr hW a1 (fun j _ h => h93 j (by omega)), MP_fr a2 (by rw [h92]) (fun j _ h => h93 j h), MM_fr a3 (by rw [h92]) (by rw [h92]) (hf 94 (by omega) (by omega)), hK, MT_fr a5 (by rw [h92]) (hf 96 (by omega) (by omega)), MS_fr a6 (hf 97 (by omega) (by omega)) (hf 98 (by omega) (by omega)), MW_fr a7 (hf 101 (by omega) (by omega))⟩
end JJ
/-! what is alike stays well formed -/
theorem opD_W {D : Nat → Nat} {b i w : Nat} {ok : Bool} (h : ok = true → (b = 4 ∧ i < 12 ∧ w < D 2) ∨ (b = 16 ∧ i < 6 ∧ w < 2 ^ D 2) ∨ (b = 22 ∧ i < 12 ∧ w < D 3) ∨ (b = 34 ∧ i < 12 ∧ w ≤ 9) ∨ (b = 46 ∧ i < 12 ∧ w ≤ 9)) (hW : WD D) : WD (opD ok D (b + i) w) := by
  unfold opD
  split
  · next hk => exact setD_W (h hk) hW
  · exact hW
theorem inr_n {x : Int32} {m : Nat} (h : inr x m = true) (hm : m < 2147483648) : tn x < m := by
  obtain ⟨a, ha, rfl⟩ := inr_t h
  rw [tn_nI (by omega)]
  exact ha
theorem inr_2 {x y : Int32} {a b : Nat} (ha : a < 2147483648) (hb : b < 2147483648) (h : (inr x a && inr y b) = true) : tn x < a ∧ tn y < b := by
  rw [Bool.and_eq_true] at h
  exact ⟨inr_n h.1 ha, inr_n h.2 hb⟩
theorem draw_W {D : Nat → Nat} (hW : WD D) (x y : Int32) : WD (opD (okDraw D x y) D (4 + tn x) (tn y)) := opD_W (fun h => by
  have w := hW.1
  have := inr_2 (by omega) (by omega) h
  omega) hW
theorem tread_W {D : Nat → Nat} (hW : WD D) (x y : Int32) : WD (opD (okTread D x y) D (22 + tn x) (tn y)) := opD_W (fun h => by
  have w := hW.1
  have := inr_2 (by omega) (by omega) h
  omega) hW
theorem warp_W {D : Nat → Nat} (hW : WD D) (x y : Int32) : WD (opD (okWarp D x y) D (34 + tn x) (tn y)) := opD_W (fun h => by
  have w := hW.1
  have := inr_2 (by omega) (by omega) h
  omega) hW
theorem weft_W {D : Nat → Nat} (hW : WD D) (x y : Int32) : WD (opD (okWeft D x y) D (46 + tn x) (tn y)) := opD_W (fun h => by
  have w := hW.1
  have := inr_2 (by omega) (by omega) h
  omega) hW
theorem tie_W {D : Nat → Nat} (hW : WD D) (x y : Int32) : WD (opD (okTie D x y) D (16 + tn x) (tieV D x y)) := opD_W (fun h => by
  have w := hW.1
  have hh := inr_2 (by omega) (by omega) h
  exact Or.inr (Or.inl ⟨rfl, by omega, Nat.xor_lt_two_pow (hW.2.2.1 _ hh.1) (Nat.pow_lt_pow_right (by decide) hh.2)⟩)) hW
theorem smpD_W {r c : Nat} {X : Nat → Nat} {D : Nat → Nat} (hX : WX r c X) (hW : WD D) : WD (smpD r c X D) := by
  unfold smpD
  split
  · next h =>
    unfold smok at h
    rw [decide_eq_true_eq] at h
    exact smD_W hX h.1 h.2.1 h.2.2
  · exact hW
theorem undo_W {n : Nat} {P : Nat → Nat → Nat} {D : Nat → Nat} (hP : ∀ i, i < n → WD (P i)) (hW : WD D) : WD (undoD n P D) := by
  unfold undoD
  split
  · exact hW
  · exact hP _ (by omega)
theorem back_W {kb : Nat → Bool} {K : Nat → Nat → Nat} {D : Nat → Nat} {x : Int32} (hK : ∀ k, k < 2 → kb k = true → WD (K k)) (hW : WD D) : WD (backD kb K D x) := by
  unfold backD
  split
  · next h => exact hK _ (inr_n h.1 (by omega)) h.2
  · exact hW
theorem spool_W {Z : Nat → Nat → Nat} (h : WZ Z) (x : Int32) : WZ (spoolZ Z x) := by
  unfold spoolZ
  split
  · exact WZ_U h sp1_W
  · exact h
theorem wind_W {Z : Nat → Nat → Nat} (h : WZ Z) (x y : Int32) : WZ (windZ Z x y) := by
  unfold windZ
  split
  · next hc =>
    obtain ⟨h1, h2, h3, h4⟩ := hc
    have ht := inr_n h1 (by omega)
    have hS := h _ ht
    have h9 := hS.1
    obtain ⟨v, hv1, hv2, rfl⟩ := inq_t (a := 1) (b := 99) h2
    rw [tn_nI (by omega)]
    exact WZ_U h (spW_W hS (by omega) (by omega) ⟨hv1, hv2⟩)
  · exact h
theorem pull_W {Z : Nat → Nat → Nat} (h : WZ Z) (x y : Int32) : WZ (pullZ Z x y) := by
  unfold pullZ
  split
  · next hc =>
    have hS := h _ (inr_n hc.1 (by omega))
    have h9 := hS.1
    exact WZ_U h (plS_W _ _ (by omega) (fun i hi => hS.2 i (by omega))).1
  · exact h
theorem knot_W {Z : Nat → Nat → Nat} (h : WZ Z) (x : Int32) : WZ (knotZ Z x) := by
  unfold knotZ
  split
  · next hc => exact WZ_U h (spJ_W (h _ (inr_n hc.1 (by omega))) hc.2)
  · exact h
theorem drop_W {Z : Nat → Nat → Nat} (h : WZ Z) (x : Int32) : WZ (dropZ Z x) := by
  unfold dropZ
  split
  · exact WZ_U h sp0_W
  · exact h
theorem rwU_W {S : Nat → Nat} (hS : WS S) : ∀ (n : Nat) (U : Nat → Nat), n + 1 ≤ S 0 → WS U → 1 ≤ U 0 → U 0 + n ≤ 9 → WS (rwU S n U) := by
  intro n
  induction n with
  | zero => intro U _ h _ _; exact h
  | succ n ih =>
    intro U h1 h2 h3 h4
    unfold rwU
    have hw := spW_W h2 h3 (by omega) (hS.2 n (by omega))
    exact ih _ (by omega) hw (by simp [spW]) (by simp [spW]; omega)
theorem rew_W {Z : Nat → Nat → Nat} (h : WZ Z) (x y : Int32) : WZ (rewZ Z x y) := by
  unfold rewZ
  split
  · next hc =>
    obtain ⟨h1, h2, h3, h4, h5, h6⟩ := hc
    have hS := h _ (inr_n h1 (by omega))
    have hU := h _ (inr_n h2 (by omega))
    exact WZ_U (WZ_U h (rwU_W hS _ _ (by omega) hU (by omega) (by omega))) sp1_W
  · exact h
theorem j_end (E : ip_E) (hE : ip_fok2 E.2.2) {σ : ip_G} (hA : jA σ) (x y : Int32) (κ : Option Value → ip_G → Prop) (hk : ∀ v σ1, (∀ κ2 : Option Value → ip_G → Prop, (∀ σ2, jA σ2 → κ2 (some (.int v)) σ2) → wp E 140 0 [.ref 92, .int x, .int y] [] σ1 κ2) → κ (some (.int v)) σ1) : wp E 46 0 [.ref 0, .int x, .int y] [] σ κ := by
  obtain ⟨D, n, P, r, c, X, kb, K, l, T, Z, hC, hM, hW⟩ := id hA
  rw [c_end E hC.1 hW.1 x y κ]
  exact hk _ σ (fun κ2 hk2 => by rw [m_end E hM.1 hW.1 x y κ2]; exact hk2 σ hA)
theorem j_pick (E : ip_E) (hE : ip_fok2 E.2.2) {σ : ip_G} (hA : jA σ) (x y : Int32) (κ : Option Value → ip_G → Prop) (hk : ∀ v σ1, (∀ κ2 : Option Value → ip_G → Prop, (∀ σ2, jA σ2 → κ2 (some (.int v)) σ2) → wp E 146 0 [.ref 92, .int x, .int y] [] σ1 κ2) → κ (some (.int v)) σ1) : wp E 52 0 [.ref 0, .int x, .int y] [] σ κ := by
  obtain ⟨D, n, P, r, c, X, kb, K, l, T, Z, hC, hM, hW⟩ := id hA
  rw [c_pick E hC.1 hW.1 x y κ]
  exact hk _ σ (fun κ2 hk2 => by rw [m_pick E hM.1 hW.1 x y κ2]; exact hk2 σ hA)
theorem j_treadle (E : ip_E) (hE : ip_fok2 E.2.2) {σ : ip_G} (hA : jA σ) (x : Int32) (κ : Option Value → ip_G → Prop) (hk : ∀ v σ1, (∀ κ2 : Option Value → ip_G → Prop, (∀ σ2, jA σ2 → κ2 (some (.int v)) σ2) → wp E 150 0 [.ref 92, .int x] [] σ1 κ2) → κ (some (.int v)) σ1) : wp E 59 0 [.ref 0, .int x] [] σ κ := by
  obtain ⟨D, n, P, r, c, X, kb, K, l, T, Z, hC, hM, hW⟩ := id hA
  rw [c_treadle E hC.1 hW.1 x κ]
  exact hk _ σ (fun κ2 hk2 => by rw [m_treadle E hM.1 hW.1 x κ2]; exact hk2 σ hA)
theorem j_cross (E : ip_E) (hE : ip_fok2 E.2.2) {σ : ip_G} (hA : jA σ) (x y z : Int32) (κ : Option Value → ip_G → Prop) (hk : ∀ v σ1, (∀ κ2 : Option Value → ip_G → Prop, (∀ σ2, jA σ2 → κ2 (some (.int v)) σ2) → wp E 152 0 [.ref 92, .int x, .int y, .int z] [] σ1 κ2) → κ (some (.int v)) σ1) : wp E 61 0 [.ref 0, .int x, .int y, .int z, .retAddr 0] [] σ κ := by
  obtain ⟨D, n, P, r, c, X, kb, K, l, T, Z, hC, hM, hW⟩ := id hA
  rw [c_cross E hC.1 hW.1 x y z κ]
  exact hk _ σ (fun κ2 hk2 => by rw [m_cross E hM.1 hW.1 x y z κ2]; exact hk2 σ hA)
theorem j_sampled (E : ip_E) (hE : ip_fok2 E.2.2) {σ : ip_G} (hA : jA σ) (x y : Int32) (κ : Option Value → ip_G → Prop) (hk : ∀ v σ1, (∀ κ2 : Option Value → ip_G → Prop, (∀ σ2, jA σ2 → κ2 (some (.int v)) σ2) → wp E 175 0 [.ref 92, .int x, .int y] [] σ1 κ2) → κ (some (.int v)) σ1) : wp E 87 0 [.ref 0, .int x, .int y] [] σ κ := by
  obtain ⟨D, n, P, r, c, X, kb, K, l, T, Z, hC, hM, hW⟩ := id hA
  rw [c_sampled E x y hC.2.2.1 hW.2.1 κ]
  exact hk _ σ (fun κ2 hk2 => by rw [m_sampled E x y hM.2.2.1 hW.2.1 κ2]; exact hk2 σ hA)
theorem j_measure (E : ip_E) (hE : ip_fok2 E.2.2) {σ : ip_G} (hA : jA σ) (x y : Int32) (κ : Option Value → ip_G → Prop) (hk : ∀ v σ1, (∀ κ2 : Option Value → ip_G → Prop, (∀ σ2, jA σ2 → κ2 (some (.int v)) σ2) → wp E 186 0 [.ref 92, .int x, .int y, .retAddr 0, .retAddr 0, .retAddr 0, .retAddr 0, .retAddr 0] [] σ1 κ2) → κ (some (.int v)) σ1) : wp E 105 0 [.ref 0, .int x, .int y, .retAddr 0] [] σ κ := by
  obtain ⟨D, n, P, r, c, X, kb, K, l, T, Z, hC, hM, hW⟩ := id hA
  rw [c_measure E x y hC.2.2.2.2.2 hW.2.2 κ]
  exact hk _ σ (fun κ2 hk2 => m_measure E x y hM.2.2.2.2.2.1 hW.2.2 κ2 (hk2 σ hA))
theorem j_draw (E : ip_E) (hE : ip_fok2 E.2.2) {σ : ip_G} (hA : jA σ) (x y : Int32) (κ : Option Value → ip_G → Prop) (hk : ∀ v σ1, (∀ κ2 : Option Value → ip_G → Prop, (∀ σ2, jA σ2 → κ2 (some (.int v)) σ2) → wp E 153 0 [.ref 92, .int x, .int y] [] σ1 κ2) → κ (some (.int v)) σ1) : wp E 62 0 [.ref 0, .int x, .int y, .retAddr 0] [] σ κ := by
  obtain ⟨D, n, P, r, c, X, kb, K, l, T, Z, hC, hM, hW⟩ := id hA
  refine c_draw E hC.1 hC.2.1 hW.1 x y κ (fun σ1 g1 g2 g3 => hk _ σ1 (fun κ2 hk2 => ?_))
  have M1 := jM_fr hM (σ' := σ1) (fun k h => g3 k (by omega))
  have C1 := jC_C hC (σ' := σ1) (fun k h _ => g3 k (by omega)) g1 g2
  refine m_draw E M1.1 M1.2.1 hW.1 x y κ2 (fun σ2 f1 f2 f3 => hk2 σ2 ?_)
  exact jA_i (jC_lo C1 (fun k h => f3.1 k (by omega) (by omega))) (jM_f M1 f3 f1 f2) ⟨draw_W hW.1 x y, hW.2⟩
theorem j_tie (E : ip_E) (hE : ip_fok2 E.2.2) {σ : ip_G} (hA : jA σ) (x y : Int32) (κ : Option Value → ip_G → Prop) (hk : ∀ v σ1, (∀ κ2 : Option Value → ip_G → Prop, (∀ σ2, jA σ2 → κ2 (some (.int v)) σ2) → wp E 158 0 [.ref 92, .int x, .int y] [] σ1 κ2) → κ (some (.int v)) σ1) : wp E 66 0 [.ref 0, .int x, .int y] [] σ κ := by
  obtain ⟨D, n, P, r, c, X, kb, K, l, T, Z, hC, hM, hW⟩ := id hA
  refine c_tie E hC.1 hC.2.1 hW.1 x y κ (fun σ1 g1 g2 g3 => hk _ σ1 (fun κ2 hk2 => ?_))
  have M1 := jM_fr hM (σ' := σ1) (fun k h => g3 k (by omega))
  have C1 := jC_C hC (σ' := σ1) (fun k h _ => g3 k (by omega)) g1 g2
  refine m_tie E M1.1 M1.2.1 hW.1 x y κ2 (fun σ2 f1 f2 f3 => hk2 σ2 ?_)
  exact jA_i (jC_lo C1 (fun k h => f3.1 k (by omega) (by omega))) (jM_f M1 f3 f1 f2) ⟨tie_W hW.1 x y, hW.2⟩
theorem j_tread (E : ip_E) (hE : ip_fok2 E.2.2) {σ : ip_G} (hA : jA σ) (x y : Int32) (κ : Option Value → ip_G → Prop) (hk : ∀ v σ1, (∀ κ2 : Option Value → ip_G → Prop, (∀ σ2, jA σ2 → κ2 (some (.int v)) σ2) → wp E 159 0 [.ref 92, .int x, .int y] [] σ1 κ2) → κ (some (.int v)) σ1) : wp E 67 0 [.ref 0, .int x, .int y, .retAddr 0] [] σ κ := by
  obtain ⟨D, n, P, r, c, X, kb, K, l, T, Z, hC, hM, hW⟩ := id hA
  refine c_tread E hC.1 hC.2.1 hW.1 x y κ (fun σ1 g1 g2 g3 => hk _ σ1 (fun κ2 hk2 => ?_))
  have M1 := jM_fr hM (σ' := σ1) (fun k h => g3 k (by omega))
  have C1 := jC_C hC (σ' := σ1) (fun k h _ => g3 k (by omega)) g1 g2
  refine m_tread E M1.1 M1.2.1 hW.1 x y κ2 (fun σ2 f1 f2 f3 => hk2 σ2 ?_)
  exact jA_i (jC_lo C1 (fun k h => f3.1 k (by omega) (by omega))) (jM_f M1 f3 f1 f2) ⟨tread_W hW.1 x y, hW.2⟩
theorem j_warp (E : ip_E) (hE : ip_fok2 E.2.2) {σ : ip_G} (hA : jA σ) (x y : Int32) (κ : Option Value → ip_G → Prop) (hk : ∀ v σ1, (∀ κ2 : Option Value → ip_G → Prop, (∀ σ2, jA σ2 → κ2 (some (.int v)) σ2) → wp E 160 0 [.ref 92, .int x, .int y] [] σ1 κ2) → κ (some (.int v)) σ1) : wp E 68 0 [.ref 0, .int x, .int y, .retAddr 0] [] σ κ := by
  obtain ⟨D, n, P, r, c, X, kb, K, l, T, Z, hC, hM, hW⟩ := id hA
  refine c_warp E hC.1 hC.2.1 hW.1 x y κ (fun σ1 g1 g2 g3 => hk _ σ1 (fun κ2 hk2 => ?_))
  have M1 := jM_fr hM (σ' := σ1) (fun k h => g3 k (by omega))
  have C1 := jC_C hC (σ' := σ1) (fun k h _ => g3 k (by omega)) g1 g2
  refine m_warp E M1.1 M1.2.1 hW.1 x y κ2 (fun σ2 f1 f2 f3 => hk2 σ2 ?_)
  exact jA_i (jC_lo C1 (fun k h => f3.1 k (by omega) (by omega))) (jM_f M1 f3 f1 f2) ⟨warp_W hW.1 x y, hW.2⟩
theorem j_weft (E : ip_E) (hE : ip_fok2 E.2.2) {σ : ip_G} (hA : jA σ) (x y : Int32) (κ : Option Value → ip_G → Prop) (hk : ∀ v σ1, (∀ κ2 : Option Value → ip_G → Prop, (∀ σ2, jA σ2 → κ2 (some (.int v)) σ2) → wp E 161 0 [.ref 92, .int x, .int y] [] σ1 κ2) → κ (some (.int v)) σ1) : wp E 70 0 [.ref 0, .int x, .int y, .retAddr 0] [] σ κ := by
  obtain ⟨D, n, P, r, c, X, kb, K, l, T, Z, hC, hM, hW⟩ := id hA
  refine c_weft E hC.1 hC.2.1 hW.1 x y κ (fun σ1 g1 g2 g3 => hk _ σ1 (fun κ2 hk2 => ?_))
  have M1 := jM_fr hM (σ' := σ1) (fun k h => g3 k (by omega))
  have C1 := jC_C hC (σ' := σ1) (fun k h _ => g3 k (by omega)) g1 g2
  refine m_weft E M1.1 M1.2.1 hW.1 x y κ2 (fun σ2 f1 f2 f3 => hk2 σ2 ?_)
  exact jA_i (jC_lo C1 (fun k h => f3.1 k (by omega) (by omega))) (jM_f M1 f3 f1 f2) ⟨weft_W hW.1 x y, hW.2⟩
theorem j_sample (E : ip_E) (hE : ip_fok2 E.2.2) {σ : ip_G} (hA : jA σ) (κ : Option Value → ip_G → Prop) (hk : ∀ v σ1, (∀ κ2 : Option Value → ip_G → Prop, (∀ σ2, jA σ2 → κ2 (some (.int v)) σ2) → wp E 162 0 [.ref 92, .retAddr 0, .retAddr 0, .retAddr 0, .retAddr 0] [] σ1 κ2) → κ (some (.int v)) σ1) : wp E 71 0 [.ref 0] [] σ κ := by
  obtain ⟨D, n, P, r, c, X, kb, K, l, T, Z, hC, hM, hW⟩ := id hA
  refine c_sample E hC.2.2.1 hW.2.1 hC.1 hC.2.1 hW.1 κ (fun σ1 g1 g2 g3 => hk _ σ1 (fun κ2 hk2 => ?_))
  have M1 := jM_fr hM (σ' := σ1) (fun k h => g3 k (by omega))
  have C1 := jC_C hC (σ' := σ1) (fun k h _ => g3 k (by omega)) g1 g2
  refine m_sample E M1.2.2.1 hW.2.1 M1.1 M1.2.1 hW.1 κ2 (fun σ2 f1 f2 f3 => hk2 σ2 ?_)
  exact jA_i (jC_lo C1 (fun k h => f3.1 k (by omega) (by omega))) (jM_f M1 f3 f1 f2) ⟨smpD_W hW.2.1 hW.1, hW.2⟩
theorem j_turn (E : ip_E) (hE : ip_fok2 E.2.2) {σ : ip_G} (hA : jA σ) (κ : Option Value → ip_G → Prop) (hk : ∀ v σ1, (∀ κ2 : Option Value → ip_G → Prop, (∀ σ2, jA σ2 → κ2 (some (.int v)) σ2) → wp E 168 0 [.ref 92, .retAddr 0, .retAddr 0] [] σ1 κ2) → κ (some (.int v)) σ1) : wp E 78 0 [.ref 0] [] σ κ := by
  obtain ⟨D, n, P, r, c, X, kb, K, l, T, Z, hC, hM, hW⟩ := id hA
  refine c_turn E hC.1 hC.2.1 hW.1 κ (fun σ1 g1 g2 g3 => hk _ σ1 (fun κ2 hk2 => ?_))
  have M1 := jM_fr hM (σ' := σ1) (fun k h => g3 k (by omega))
  have C1 := jC_C hC (σ' := σ1) (fun k h _ => g3 k (by omega)) g1 g2
  refine m_turn E M1.2.1 M1.1 hW.1 κ2 (fun σ2 f2 f1 f3 => hk2 σ2 ?_)
  exact jA_i (jC_lo C1 (fun k h => f3.1 k (by omega) (by omega) (by omega))) (jM_M M1 f3.1 f3.2.1 f3.2.2 f1 f2) ⟨tnN_W hW.1, hW.2⟩
theorem j_undo (E : ip_E) (hE : ip_fok2 E.2.2) {σ : ip_G} (hA : jA σ) (κ : Option Value → ip_G → Prop) (hk : ∀ v σ1, (∀ κ2 : Option Value → ip_G → Prop, (∀ σ2, jA σ2 → κ2 (some (.int v)) σ2) → wp E 170 0 [.ref 92] [] σ1 κ2) → κ (some (.int v)) σ1) : wp E 81 0 [.ref 0] [] σ κ := by
  obtain ⟨D, n, P, r, c, X, kb, K, l, T, Z, hC, hM, hW⟩ := id hA
  refine c_undo E hC.1 hC.2.1 hW.1 κ (fun σ1 g1 g2 g3 => hk _ σ1 (fun κ2 hk2 => ?_))
  have M1 := jM_fr hM (σ' := σ1) (fun k h => g3 k (by omega))
  have C1 := jC_C hC (σ' := σ1) (fun k h _ => g3 k (by omega)) g1 g2
  refine m_undo E M1.2.1 M1.1 hW.1 κ2 (fun σ2 f2 f1 f3 => hk2 σ2 ?_)
  exact jA_i (jC_lo C1 (fun k h => f3.1 k (by omega) (by omega))) (jM_f M1 f3 f1 f2) ⟨undo_W hC.2.1.2.2.2 hW.1, hW.2⟩
theorem j_back (E : ip_E) (hE : ip_fok2 E.2.2) {σ : ip_G} (hA : jA σ) (x : Int32) (κ : Option Value → ip_G → Prop) (hk : ∀ v σ1, (∀ κ2 : Option Value → ip_G → Prop, (∀ σ2, jA σ2 → κ2 (some (.int v)) σ2) → wp E 172 0 [.ref 92, .int x] [] σ1 κ2) → κ (some (.int v)) σ1) : wp E 84 0 [.ref 0, .int x] [] σ κ := by
  obtain ⟨D, n, P, r, c, X, kb, K, l, T, Z, hC, hM, hW⟩ := id hA
  refine c_back E x hC.2.2.2.1 hC.2.1 hC.1 hW.1 κ (fun σ1 g1 g2 g3 => hk _ σ1 (fun κ2 hk2 => ?_))
  have M1 := jM_fr hM (σ' := σ1) (fun k h => g3 k (by omega))
  have C1 := jC_C hC (σ' := σ1) (fun k h _ => g3 k (by omega)) g1 g2
  refine m_back E x M1.2.2.2.1 M1.2.1 M1.1 hW.1 κ2 (fun σ2 f1 f2 f3 => hk2 σ2 ?_)
  exact jA_i (jC_lo C1 (fun k h => f3.1 k (by omega) (by omega))) (jM_f M1 f3 f1 f2) ⟨back_W (fun k h1 h2 => ((hC.2.2.2.1 k h1).2 h2).2) hW.1, hW.2⟩
theorem j_keep (E : ip_E) (hE : ip_fok2 E.2.2) {σ : ip_G} (hA : jA σ) (x : Int32) (κ : Option Value → ip_G → Prop) (hk : ∀ v σ1, (∀ κ2 : Option Value → ip_G → Prop, (∀ σ2, jA σ2 → κ2 (some (.int v)) σ2) → wp E 171 0 [.ref 92, .int x] [] σ1 κ2) → κ (some (.int v)) σ1) : wp E 83 0 [.ref 0, .int x] [] σ κ := by
  obtain ⟨D, n, P, r, c, X, kb, K, l, T, Z, hC, hM, hW⟩ := id hA
  refine c_keep E x hC.2.2.2.1 hC.1 hW.1 κ (fun σ1 g1 g2 => hk _ σ1 (fun κ2 hk2 => ?_))
  have M1 := jM_fr hM (σ' := σ1) (fun k h => g2 k (by omega) (by omega))
  have C1 := jC_K hC (σ' := σ1) g2 g1
  refine m_keep E x M1.2.2.2.1 M1.1 hW.1 κ2 (fun σ2 f1 f2 f3 => hk2 σ2 ?_)
  exact jA_i (jC_lo C1 (fun k h => f2 k (by omega) (by omega))) (jM_K hW.1 M1 f2 f3 f1) hW
theorem j_least (E : ip_E) (hE : ip_fok2 E.2.2) {σ : ip_G} (hA : jA σ) (x : Int32) (κ : Option Value → ip_G → Prop) (hk : ∀ v σ1, (∀ κ2 : Option Value → ip_G → Prop, (∀ σ2, jA σ2 → κ2 (some (.int v)) σ2) → wp E 173 0 [.ref 92, .int x] [] σ1 κ2) → κ (some (.int v)) σ1) : wp E 85 0 [.ref 0, .int x] [] σ κ := by
  obtain ⟨D, n, P, r, c, X, kb, K, l, T, Z, hC, hM, hW⟩ := id hA
  refine c_least E x hC.2.2.1 hW.2.1 hC.1 hW.1 κ (fun σ1 g1 => hk _ σ1 (fun κ2 hk2 => ?_))
  have M1 := jM_fr hM (σ' := σ1) (fun k h => g1 k (by omega) (by omega) (by omega))
  have C1 := jC_fr hC (σ' := σ1) (fun k _ _ _ _ h1 h2 h3 => g1 k h1 h2 h3)
  rw [m_least E x M1.2.2.1 hW.2.1 M1.1 hW.1 κ2]
  exact hk2 σ1 (jA_i C1 M1 hW)
theorem j_tamed (E : ip_E) (hE : ip_fok2 E.2.2) {σ : ip_G} (hA : jA σ) (x y : Int32) (κ : Option Value → ip_G → Prop) (hk : ∀ v σ1, (∀ κ2 : Option Value → ip_G → Prop, (∀ σ2, jA σ2 → κ2 (some (.int v)) σ2) → wp E 176 0 [.ref 92, .int x, .int y, .retAddr 0, .retAddr 0, .retAddr 0, .retAddr 0] [] σ1 κ2) → κ (some (.int v)) σ1) : wp E 88 0 [.ref 0, .int x, .int y] [] σ κ := by
  obtain ⟨D, n, P, r, c, X, kb, K, l, T, Z, hC, hM, hW⟩ := id hA
  refine c_tamed E hC.1 hW.1 x y κ (fun σ1 g1 => hk _ σ1 (fun κ2 hk2 => ?_))
  have M1 := jM_fr hM (σ' := σ1) (fun k h => g1 k (by omega) (by omega))
  have C1 := jC_fr hC (σ' := σ1) (fun k _ _ h1 h2 _ _ _ => g1 k h1 h2)
  rw [m_tamed E M1.1 hW.1 x y κ2]
  exact hk2 σ1 (jA_i C1 M1 hW)
theorem j_count (E : ip_E) (hE : ip_fok2 E.2.2) {σ : ip_G} (hA : jA σ) (x : Int32) (κ : Option Value → ip_G → Prop) (hk : ∀ v σ1, (∀ κ2 : Option Value → ip_G → Prop, (∀ σ2, jA σ2 → κ2 (some (.int v)) σ2) → wp E 189 0 [.ref 92, .int x] [] σ1 κ2) → κ (some (.int v)) σ1) : wp E 110 0 [.ref 0, .int x] [] σ κ := by
  obtain ⟨D, n, P, r, c, X, kb, K, l, T, Z, hC, hM, hW⟩ := id hA
  refine c_count E x hC.1 hC.2.1 hC.2.2.2.2.1 hC.2.2.2.2.2 hW.1 κ (fun σ1 g1 => hk _ σ1 (fun κ2 hk2 => ?_))
  have M1 := jM_fr hM (σ' := σ1) (fun k h => g1 k (by omega))
  have C1 := jC_fr hC (σ' := σ1) (fun k _ h1 _ _ _ _ _ => g1 k h1)
  rw [m_count E x M1.1 M1.2.1 M1.2.2.2.2.1 M1.2.2.2.2.2.1 hW.2.2 hW.1 κ2]
  exact hk2 σ1 (jA_i C1 M1 hW)
theorem j_changed (E : ip_E) (hE : ip_fok2 E.2.2) {σ : ip_G} (hA : jA σ) (x y : Int32) (κ : Option Value → ip_G → Prop) (hk : ∀ v σ1, (∀ κ2 : Option Value → ip_G → Prop, (∀ σ2, jA σ2 → κ2 (some (.int v)) σ2) → wp E 178 0 [.ref 92, .int x, .int y, .retAddr 0] [] σ1 κ2) → κ (some (.int v)) σ1) : wp E 90 0 [.ref 0, .int x, .int y, .retAddr 0] [] σ κ := by
  obtain ⟨D, n, P, r, c, X, kb, K, l, T, Z, hC, hM, hW⟩ := id hA
  refine c_changed E x y hC.1 hW.1 κ (fun σ1 g1 g2 => hk _ σ1 (fun κ2 hk2 => ?_))
  have M1 := jM_fr hM (σ' := σ1) (fun k h => g2 k (by omega))
  have C1 := jC_C hC (σ' := σ1) (fun k h _ => g2 k (by omega)) g1 (CP_fr hC.2.1 (fun k _ _ => g2 k (by omega)))
  rw [m_changed E x y M1.1 hW.1 κ2]
  exact hk2 σ1 (jA_i C1 M1 hW)
theorem j_write (E : ip_E) (hE : ip_fok2 E.2.2) {σ : ip_G} (hA : jA σ) (x : Int32) (κ : Option Value → ip_G → Prop) (hk : ∀ v σ1, (∀ κ2 : Option Value → ip_G → Prop, (∀ σ2, jA σ2 → κ2 (some (.int v)) σ2) → wp E 124 0 [.ref 92, .int x] [] σ1 κ2) → κ (some (.int v)) σ1) : wp E 9 0 [.ref 0, .int x] [] σ κ := by
  obtain ⟨D, n, P, r, c, X, kb, K, l, T, Z, hC, hM, hW⟩ := id hA
  refine c_write E x hC.2.2.2.2.1 κ (fun σ1 g1 g2 _ => hk _ σ1 (fun κ2 hk2 => ?_))
  have M1 := jM_fr hM (σ' := σ1) (fun k h => g2 k (by omega) (by omega))
  have C1 := jC_T hC (σ' := σ1) g2 g1
  refine m_write E x M1.2.2.2.2.1 κ2 (fun σ2 f1 f2 f3 => hk2 σ2 ?_)
  exact jA_i (jC_lo C1 (fun k h => f2 k (by omega) (by omega))) (jM_T M1 f2 f3 f1) hW
theorem j_erase (E : ip_E) (hE : ip_fok2 E.2.2) {σ : ip_G} (hA : jA σ) (κ : Option Value → ip_G → Prop) (hk : ∀ v σ1, (∀ κ2 : Option Value → ip_G → Prop, (∀ σ2, jA σ2 → κ2 (some (.int v)) σ2) → wp E 126 0 [.ref 92, .retAddr 0] [] σ1 κ2) → κ (some (.int v)) σ1) : wp E 10 0 [.ref 0, .retAddr 0] [] σ κ := by
  obtain ⟨D, n, P, r, c, X, kb, K, l, T, Z, hC, hM, hW⟩ := id hA
  refine c_erase E hC.2.2.2.2.1 κ (fun σ1 g1 g2 _ => hk _ σ1 (fun κ2 hk2 => ?_))
  have M1 := jM_fr hM (σ' := σ1) (fun k h => g2 k (by omega))
  have C1 := jC_T hC (σ' := σ1) (fun k h _ => g2 k h) g1
  refine m_erase E M1.2.2.2.2.1 κ2 (fun σ2 f1 f2 f3 => hk2 σ2 ?_)
  exact jA_i (jC_lo C1 (fun k h => f2 k (by omega))) (jM_T M1 (fun k h _ => f2 k h) f3 f1) hW
theorem j_spool (E : ip_E) (hE : ip_fok2 E.2.2) {σ : ip_G} (hA : jA σ) (x : Int32) (κ : Option Value → ip_G → Prop) (hk : ∀ v σ1, (∀ κ2 : Option Value → ip_G → Prop, (∀ σ2, jA σ2 → κ2 (some (.int v)) σ2) → wp E 180 0 [.ref 92, .int x] [] σ1 κ2) → κ (some (.int v)) σ1) : wp E 94 0 [.ref 0, .int x] [] σ κ := by
  obtain ⟨D, n, P, r, c, X, kb, K, l, T, Z, hC, hM, hW⟩ := id hA
  refine c_spool E x hC.2.2.2.2.2 κ (fun σ1 g1 g2 => hk _ σ1 (fun κ2 hk2 => ?_))
  have M1 := jM_fr hM (σ' := σ1) (fun k h => g2 k (by omega))
  have C1 := jC_S hC (σ' := σ1) g2 g1
  refine m_spool E x M1.2.2.2.2.2.1 hW.2.2 κ2 (fun σ2 f1 f2 => hk2 σ2 ?_)
  exact jA_i (jC_lo C1 (fun k h => f2 k (by omega) (by omega))) (jM_S M1 f2 f1) ⟨hW.1, hW.2.1, spool_W hW.2.2 x⟩
theorem j_wind (E : ip_E) (hE : ip_fok2 E.2.2) {σ : ip_G} (hA : jA σ) (x y : Int32) (κ : Option Value → ip_G → Prop) (hk : ∀ v σ1, (∀ κ2 : Option Value → ip_G → Prop, (∀ σ2, jA σ2 → κ2 (some (.int v)) σ2) → wp E 182 0 [.ref 92, .int x, .int y] [] σ1 κ2) → κ (some (.int v)) σ1) : wp E 97 0 [.ref 0, .int x, .int y, .retAddr 0] [] σ κ := by
  obtain ⟨D, n, P, r, c, X, kb, K, l, T, Z, hC, hM, hW⟩ := id hA
  refine c_wind E x y hC.2.2.2.2.2 hW.2.2 κ (fun σ1 g1 g2 => hk _ σ1 (fun κ2 hk2 => ?_))
  have M1 := jM_fr hM (σ' := σ1) (fun k h => g2 k (by omega))
  have C1 := jC_S hC (σ' := σ1) g2 g1
  refine m_wind E x y M1.2.2.2.2.2.1 hW.2.2 κ2 (fun σ2 f1 f2 => hk2 σ2 ?_)
  exact jA_i (jC_lo C1 (fun k h => f2 k (by omega) (by omega))) (jM_S M1 f2 f1) ⟨hW.1, hW.2.1, wind_W hW.2.2 x y⟩
theorem j_pull (E : ip_E) (hE : ip_fok2 E.2.2) {σ : ip_G} (hA : jA σ) (x y : Int32) (κ : Option Value → ip_G → Prop) (hk : ∀ v σ1, (∀ κ2 : Option Value → ip_G → Prop, (∀ σ2, jA σ2 → κ2 (some (.int v)) σ2) → wp E 183 0 [.ref 92, .int x, .int y, .retAddr 0, .retAddr 0] [] σ1 κ2) → κ (some (.int v)) σ1) : wp E 99 0 [.ref 0, .int x, .int y, .retAddr 0] [] σ κ := by
  obtain ⟨D, n, P, r, c, X, kb, K, l, T, Z, hC, hM, hW⟩ := id hA
  refine c_pull E x y hC.2.2.2.2.2 hW.2.2 κ (fun σ1 g1 g2 => hk _ σ1 (fun κ2 hk2 => ?_))
  have M1 := jM_fr hM (σ' := σ1) (fun k h => g2 k (by omega))
  have C1 := jC_S hC (σ' := σ1) g2 g1
  refine m_pull E x y M1.2.2.2.2.2.1 hW.2.2 κ2 (fun σ2 f1 f2 => hk2 σ2 ?_)
  exact jA_i (jC_lo C1 (fun k h => f2 k (by omega) (by omega))) (jM_S M1 f2 f1) ⟨hW.1, hW.2.1, pull_W hW.2.2 x y⟩
theorem j_knot (E : ip_E) (hE : ip_fok2 E.2.2) {σ : ip_G} (hA : jA σ) (x : Int32) (κ : Option Value → ip_G → Prop) (hk : ∀ v σ1, (∀ κ2 : Option Value → ip_G → Prop, (∀ σ2, jA σ2 → κ2 (some (.int v)) σ2) → wp E 185 0 [.ref 92, .int x, .retAddr 0, .retAddr 0] [] σ1 κ2) → κ (some (.int v)) σ1) : wp E 102 0 [.ref 0, .int x, .retAddr 0] [] σ κ := by
  obtain ⟨D, n, P, r, c, X, kb, K, l, T, Z, hC, hM, hW⟩ := id hA
  refine c_knot E x hC.2.2.2.2.2 hW.2.2 κ (fun σ1 g1 g2 => hk _ σ1 (fun κ2 hk2 => ?_))
  have M1 := jM_fr hM (σ' := σ1) (fun k h => g2 k (by omega))
  have C1 := jC_S hC (σ' := σ1) g2 g1
  refine m_knot E x M1.2.2.2.2.2.1 hW.2.2 κ2 (fun σ2 f1 f2 => hk2 σ2 ?_)
  exact jA_i (jC_lo C1 (fun k h => f2 k (by omega) (by omega))) (jM_S M1 f2 f1) ⟨hW.1, hW.2.1, knot_W hW.2.2 x⟩
theorem j_rewind (E : ip_E) (hE : ip_fok2 E.2.2) {σ : ip_G} (hA : jA σ) (x y : Int32) (κ : Option Value → ip_G → Prop) (hk : ∀ v σ1, (∀ κ2 : Option Value → ip_G → Prop, (∀ σ2, jA σ2 → κ2 (some (.int v)) σ2) → wp E 187 0 [.ref 92, .int x, .int y] [] σ1 κ2) → κ (some (.int v)) σ1) : wp E 108 0 [.ref 0, .int x, .int y, .retAddr 0, .retAddr 0, .retAddr 0] [] σ κ := by
  obtain ⟨D, n, P, r, c, X, kb, K, l, T, Z, hC, hM, hW⟩ := id hA
  refine c_rewind E x y hC.2.2.2.2.2 hW.2.2 κ (fun σ1 g1 g2 => hk _ σ1 (fun κ2 hk2 => ?_))
  have M1 := jM_fr hM (σ' := σ1) (fun k h => g2 k (by omega))
  have C1 := jC_S hC (σ' := σ1) g2 g1
  refine m_rewind E x y M1.2.2.2.2.2.1 hW.2.2 κ2 (fun σ2 f1 f2 => hk2 σ2 ?_)
  exact jA_i (jC_lo C1 (fun k h => f2 k (by omega) (by omega))) (jM_S M1 f2 f1) ⟨hW.1, hW.2.1, rew_W hW.2.2 x y⟩
theorem j_drop (E : ip_E) (hE : ip_fok2 E.2.2) {σ : ip_G} (hA : jA σ) (x : Int32) (κ : Option Value → ip_G → Prop) (hk : ∀ v σ1, (∀ κ2 : Option Value → ip_G → Prop, (∀ σ2, jA σ2 → κ2 (some (.int v)) σ2) → wp E 188 0 [.ref 92, .int x, .retAddr 0] [] σ1 κ2) → κ (some (.int v)) σ1) : wp E 109 0 [.ref 0, .int x, .retAddr 0, .retAddr 0] [] σ κ := by
  obtain ⟨D, n, P, r, c, X, kb, K, l, T, Z, hC, hM, hW⟩ := id hA
  refine c_drop E x hC.2.2.2.2.2 κ (fun σ1 g1 g2 => hk _ σ1 (fun κ2 hk2 => ?_))
  have M1 := jM_fr hM (σ' := σ1) (fun k h => g2 k (by omega))
  have C1 := jC_S hC (σ' := σ1) g2 g1
  refine m_drop E x M1.2.2.2.2.2.1 hW.2.2 κ2 (fun σ2 f1 f2 => hk2 σ2 ?_)
  exact jA_i (jC_lo C1 (fun k h => f2 k (by omega) (by omega))) (jM_S M1 f2 f1) ⟨hW.1, hW.2.1, drop_W hW.2.2 x⟩
theorem j_fault (E : ip_E) (hE : ip_fok2 E.2.2) {σ : ip_G} (hA : jA σ) (κ : Option Value → ip_G → Prop) (hk : ∀ v σ1, (∀ κ2 : Option Value → ip_G → Prop, (∀ σ2, jA σ2 → κ2 (some (.int v)) σ2) → wp E 127 0 [.ref 92] [] σ1 κ2) → κ (some (.int v)) σ1) : wp E 11 0 [.ref 0] [] σ κ := by
  obtain ⟨D, n, P, r, c, X, kb, K, l, T, Z, hC, hM, hW⟩ := id hA
  refine c_fault E hE hC.2.2.2.2.1 hC.1 hC.2.2.1 hW.1 hW.2.1 κ (fun σ1 g1 g2 => hk _ σ1 (fun κ2 hk2 => ?_))
  have M1 := jM_fr hM (σ' := σ1) (fun k h => g2 k (by omega) (by omega) (by omega) (by omega))
  have C1 : jC σ1 D n P r c X kb K l T Z := ⟨CD_fr hC.1 (fun k _ _ => g2 k (by omega) (by omega) (by omega) (by omega)), CP_fr hC.2.1 (fun k _ _ => g2 k (by omega) (by omega) (by omega) (by omega)), CM_fr hC.2.2.1 (g2 63 (by omega) (by omega) (by omega) (by omega)) (g2 64 (by omega) (by omega) (by omega) (by omega)), CK_fr hC.2.2.2.1 (g2 12 (by omega) (by omega) (by omega) (by omega)) (fun k _ _ => g2 k (by omega) (by omega) (by omega) (by omega)), g1, CS_fr hC.2.2.2.2.2 (fun k _ _ => g2 k (by omega) (by omega) (by omega) (by omega))⟩
  refine m_fault E M1.2.2.2.2.1 M1.2.2.2.2.2.2 M1.1 M1.2.2.1 hW.1 hW.2.1 κ2 (fun σ2 f1 f2 f3 => hk2 σ2 ?_)
  refine jA_i (jC_lo C1 (fun k h => f3.1 k (by omega) (by omega) (by omega) (by omega) (by omega))) ⟨f2.1, MP_fr M1.2.1 (f3.2.1 4 (by omega) (by omega) (by omega) (by omega) (by omega) (by omega)) (fun j h _ => f3.2.2 j h), f2.2, MK_fr M1.2.2.2.1 (f3.1 95 (by omega) (by omega) (by omega) (by omega) (by omega)) (fun j h _ => f3.2.2 j (by omega)), f1, MS_fr M1.2.2.2.2.2.1 (f3.1 97 (by omega) (by omega) (by omega) (by omega) (by omega)) (f3.1 98 (by omega) (by omega) (by omega) (by omega) (by omega)), MW_fr M1.2.2.2.2.2.2 (f3.1 101 (by omega) (by omega) (by omega) (by omega) (by omega))⟩ hW
theorem j_draft (E : ip_E) (hE : ip_fok2 E.2.2) {σ : ip_G} (hA : jA σ) (κ : Option Value → ip_G → Prop) (hk : ∀ v σ1, (∀ κ2 : Option Value → ip_G → Prop, (∀ σ2, jA σ2 → κ2 (some (.int v)) σ2) → wp E 139 0 [.ref 92, .retAddr 0] [] σ1 κ2) → κ (some (.int v)) σ1) : wp E 39 0 [.ref 0, .retAddr 0] [] σ κ := by
  obtain ⟨D, n, P, r, c, X, kb, K, l, T, Z, hC, hM, hW⟩ := id hA
  refine c_draft E hE hC.2.2.2.2.1 hC.1 hC.2.2.1 hW.1 hW.2.1 hC.2.1 hC.2.2.2.1 hC.2.2.2.2.2 κ (fun σ1 g1 g2 g3 g4 g5 g6 => hk _ σ1 (fun κ2 hk2 => ?_))
  have M1 := jM_fr hM (σ' := σ1) g6
  have C1 : jC σ1 (drL l T D r c X).1 _ P (drL l T D r c X).2.1 (drL l T D r c X).2.2.1 (drL l T D r c X).2.2.2 _ K _ T _ := ⟨g2.1, g3, g2.2, g4, g1, g5⟩
  refine m_draft E M1.2.2.2.2.1 M1.2.2.2.2.2.2 M1.1 M1.2.2.1 hW.1 hW.2.1 M1.2.1 M1.2.2.2.1 M1.2.2.2.2.2.1 κ2 (fun σ2 f1 f2 f3 f4 f5 f6 f7 => hk2 σ2 ?_)
  have hg : gS (drL l T D r c X) := drL_g hW.1 hW.2.1
  refine jA_i (jC_lo C1 f6) ⟨f2.1, f3, f2.2, f4, f1, f5, f7⟩ ⟨hg.1, hg.2, ?_⟩
  split
  · exact zz0_W
  · exact hW.2.2
