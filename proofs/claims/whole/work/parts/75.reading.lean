/-! reading a text, told purely; carrying its clauses out -/
def ts (n : Nat) (T : Nat → Nat) (p : Nat) : Nat := skS n T p
def te (n : Nat) (T : Nat → Nat) (p : Nat) : Nat := enS n T (skS n T p)
theorem te_le {n : Nat} {T : Nat → Nat} {p : Nat} (h : p ≤ n) : ts n T p ≤ te n T p ∧ te n T p ≤ n ∧ p ≤ ts n T p ∧ ts n T p ≤ n := by
  have h1 := skS_le (T := T) h
  have h2 := enS_le (T := T) h1.2
  unfold ts te
  omega
def nmC (w : Nat) : Nat := if w = 0 then 4 else if w = 6 then 0 else 2
def nmL (w : Nat) : Nat := if w = 0 then 1 else 0
def nmH (R : Nat → Nat) (w j : Nat) : Nat := if w = 0 then (if j < 2 then 12 else 6) else if w = 1 then (if j = 0 then R 0 - 1 else R 2 - 1) else if w = 2 then (if j = 0 then R 3 - 1 else R 2 - 1) else if w = 3 then (if j = 0 then R 1 - 1 else R 3 - 1) else if w = 4 then (if j = 0 then R 0 - 1 else 9) else (if j = 0 then R 1 - 1 else 9)
/-- the token behind place p is a number of 1 or 2 digits, within its bounds -/
def nuO (n : Nat) (T : Nat → Nat) (p lo hi : Nat) : Bool := nuB n T (ts n T p) (te n T p) && decide (lo ≤ nuV T (ts n T p) (te n T p) ∧ nuV T (ts n T p) (te n T p) ≤ hi)
def nuW (n : Nat) (T : Nat → Nat) (p : Nat) : Nat := nuV T (ts n T p) (te n T p)
/-- some numbers: whether they stand, the place where the next token is looked for, or the one behind which the fault stands, the numbers -/
def rn (n : Nat) (T : Nat → Nat) (lo : Nat) (hi : Nat → Nat) : Nat → Nat → Nat → (Nat → Nat) → Bool × Nat × (Nat → Nat)
  | 0, _, p, N => (true, p, N)
  | m + 1, j, p, N => if nuO n T p lo (hi j) = true then rn n T lo hi m (j + 1) (te n T p) (setD N j (nuW n T p)) else (false, p, N)
def rwO (n : Nat) (T : Nat → Nat) (R : Nat → Nat) (p : Nat) : Bool := rowB n T (ts n T p) (te n T p) && decide (R 4 = 0 ∨ te n T p - ts n T p = R 5)
def rwN (n : Nat) (T : Nat → Nat) (p : Nat) : Nat → Nat := fun j => if j = 0 then bits (cbF T (ts n T p)) (te n T p - ts n T p) else te n T p - ts n T p
/-- what follows a word -/
def clR (n : Nat) (T : Nat → Nat) (R : Nat → Nat) (w p : Nat) : Bool × Nat × (Nat → Nat) := if w = 7 then (if rwO n T R p = true then (true, te n T p, rwN n T p) else (false, p, fun _ => 0)) else rn n T (nmL w) (nmH R w) (nmC w) 0 p (fun _ => 0)
def clW (n : Nat) (T : Nat → Nat) (p : Nat) : Nat := wF n T (ts n T p) (te n T p) 8 0
theorem clW_le (n : Nat) (T : Nat → Nat) (p : Nat) : clW n T p ≤ 8 := wF_le n T _ _ 8 0 rfl
def clB (n : Nat) (T : Nat → Nat) (R : Nat → Nat) (p : Nat) : Bool := decide (clW n T p < 8 ∧ (clW n T p = 7 → R 4 < 12))
def clz (n : Nat) (T : Nat → Nat) (R : Nat → Nat) (p : Nat) : Bool × Nat × (Nat → Nat) := if clB n T R p = true then clR n T R (clW n T p) (te n T p) else (false, p, fun _ => 0)
def nxR (R : Nat → Nat) (w : Nat) (N : Nat → Nat) : Nat → Nat := fun j => if w = 0 then (if j < 4 then N j else R j) else if w = 6 then (if j < 4 then R j else 0) else if w = 7 then (if j < 4 then R j else if j = 4 then R 4 + 1 else N 1) else R j
/-- the clauses, k more at most -/
def rd (n : Nat) (T : Nat → Nat) : Nat → Nat → (Nat → Nat) → Bool × Nat × List (Nat × (Nat → Nat))
  | 0, p, _ => (false, p, [])
  | k + 1, p, R => match clz n T R p with
    | (false, p', _) => (false, p', [])
    | (true, p', N) => if ts n T p' < n then (if T (ts n T p') = 59 ∧ k ≠ 0 then (match rd n T k (te n T p') (nxR R (clW n T p) N) with
        | (b, p2, L) => (b, p2, (clW n T p, N) :: L)) else (false, p', [])) else (true, p', [(clW n T p, N)])
/-- sizes as they can be -/
def WR (R : Nat → Nat) : Prop := 1 ≤ R 0 ∧ R 0 ≤ 12 ∧ 1 ≤ R 1 ∧ R 1 ≤ 12 ∧ 1 ≤ R 2 ∧ R 2 ≤ 6 ∧ 1 ≤ R 3 ∧ R 3 ≤ 6 ∧ R 4 ≤ 12 ∧ R 5 ≤ 12
theorem rn_le {n : Nat} {T : Nat → Nat} {lo : Nat} {hi : Nat → Nat} : ∀ (m j p : Nat) (N : Nat → Nat), p ≤ n → (rn n T lo hi m j p N).2.1 ≤ n := by
  intro m
  induction m with
  | zero => intro j p N h; exact h
  | succ m ih =>
    intro j p N h
    unfold rn
    split
    · exact ih _ _ _ (te_le h).2.1
    · exact h
theorem rn_old {n : Nat} {T : Nat → Nat} {lo : Nat} {hi : Nat → Nat} : ∀ (m j p : Nat) (N : Nat → Nat) (a : Nat), a < j → (rn n T lo hi m j p N).2.2 a = N a := by
  intro m
  induction m with
  | zero => intro j p N a h; rfl
  | succ m ih =>
    intro j p N a h
    unfold rn
    split
    · rw [ih _ _ _ _ (by omega), setD_n (by omega)]
    · rfl
theorem rn_bd {n : Nat} {T : Nat → Nat} {lo : Nat} {hi : Nat → Nat} : ∀ (m j p : Nat) (N : Nat → Nat), (rn n T lo hi m j p N).1 = true → ∀ a, j ≤ a → a < j + m → lo ≤ (rn n T lo hi m j p N).2.2 a ∧ (rn n T lo hi m j p N).2.2 a ≤ hi a := by
  intro m
  induction m with
  | zero => intro j p N _ a h1 h2; omega
  | succ m ih =>
    intro j p N hb a h1 h2
    unfold rn at hb ⊢
    split
    · next hc =>
      rw [if_pos hc] at hb
      by_cases e : a = j
      · subst e
        rw [rn_old _ _ _ _ _ (by omega), setD_s]
        unfold nuO at hc
        rw [Bool.and_eq_true, decide_eq_true_eq] at hc
        exact hc.2
      · exact ih (j + 1) _ _ hb a (by omega) (by omega)
    · next hc => rw [if_neg hc] at hb; cases hb
theorem rwN_bd {n : Nat} {T : Nat → Nat} {R : Nat → Nat} {p : Nat} (h : rwO n T R p = true) : 1 ≤ rwN n T p 1 ∧ rwN n T p 1 ≤ 12 ∧ rwN n T p 0 < 4096 := by
  unfold rwO at h
  rw [Bool.and_eq_true] at h
  have h1 := h.1
  unfold rowB at h1
  split at h1
  · next hc =>
    have hs := tk_lt (show tk n T (ts n T p) ≠ 0 by omega)
    have he : ts n T p < te n T p := enS_lt hs.1
    have hb := bits_lt (cbF T (ts n T p)) (te n T p - ts n T p)
    have h2 : (2 : Nat) ^ (te n T p - ts n T p) ≤ 2 ^ 12 := Nat.pow_le_pow_right (by decide) hc.2
    have e1 : rwN n T p 1 = te n T p - ts n T p := rfl
    have e0 : rwN n T p 0 = bits (cbF T (ts n T p)) (te n T p - ts n T p) := rfl
    rw [e1, e0]
    refine ⟨by omega, hc.2, ?_⟩
    exact Nat.lt_of_lt_of_le hb h2
  · cases h1
/-- a clause that can be done -/
def vC (D : Nat → Nat) (r : Nat) (q : Nat × (Nat → Nat)) : Prop := (q.1 = 0 ∧ 1 ≤ q.2 0 ∧ q.2 0 ≤ 12 ∧ 1 ≤ q.2 1 ∧ q.2 1 ≤ 12 ∧ 1 ≤ q.2 2 ∧ q.2 2 ≤ 6 ∧ 1 ≤ q.2 3 ∧ q.2 3 ≤ 6) ∨ (q.1 = 1 ∧ q.2 0 < D 0 ∧ q.2 1 < D 2) ∨ (q.1 = 2 ∧ q.2 0 < D 3 ∧ q.2 1 < D 2) ∨ (q.1 = 3 ∧ q.2 0 < D 1 ∧ q.2 1 < D 3) ∨ (q.1 = 4 ∧ q.2 0 < D 0 ∧ q.2 1 ≤ 9) ∨ (q.1 = 5 ∧ q.2 0 < D 1 ∧ q.2 1 ≤ 9) ∨ q.1 = 6 ∨ (q.1 = 7 ∧ r < 12 ∧ 1 ≤ q.2 1 ∧ q.2 1 ≤ 12 ∧ q.2 0 < 4096)
abbrev dSt : Type := (Nat → Nat) × Nat × Nat × (Nat → Nat)
def doD (w : Nat) (N : Nat → Nat) (D : Nat → Nat) : Nat → Nat := if w = 0 then bgN (N 0) (N 1) (N 2) (N 3) else if w = 1 then setD D (4 + N 0) (N 1) else if w = 2 then setD D (16 + N 0) (D (16 + N 0) ^^^ 2 ^ N 1) else if w = 3 then setD D (22 + N 0) (N 1) else if w = 4 then setD D (34 + N 0) (N 1) else if w = 5 then setD D (46 + N 0) (N 1) else D
def doR (w r : Nat) : Nat := if w = 6 then 0 else if w = 7 then r + 1 else r
def doC (w : Nat) (N : Nat → Nat) (c : Nat) : Nat := if w = 6 then 0 else if w = 7 then N 1 else c
def doX (w : Nat) (N : Nat → Nat) (r : Nat) (X : Nat → Nat) : Nat → Nat := if w = 7 then setD X r (N 0) else X
def doS (q : Nat × (Nat → Nat)) (S : dSt) : dSt := (doD q.1 q.2 S.1, doR q.1 S.2.1, doC q.1 q.2 S.2.2.1, doX q.1 q.2 S.2.1 S.2.2.2)
def doL : List (Nat × (Nat → Nat)) → dSt → dSt
  | [], S => S
  | q :: L, S => doL L (doS q S)
def vL : List (Nat × (Nat → Nat)) → dSt → Prop
  | [], _ => True
  | q :: L, S => vC S.1 S.2.1 q ∧ vL L (doS q S)
def gS (S : dSt) : Prop := WD S.1 ∧ WX S.2.1 S.2.2.1 S.2.2.2
theorem doD_W {D : Nat → Nat} {r : Nat} {q : Nat × (Nat → Nat)} (hW : WD D) (h : vC D r q) : WD (doD q.1 q.2 D) := by
  have w := hW.1
  unfold vC at h
  rcases h with h | h | h | h | h | h | h | h
  · rw [h.1]; exact bgN_W h.2
  · rw [h.1]; exact setD_W (by omega) hW
  · rw [h.1]
    refine setD_W (Or.inr (Or.inl ⟨rfl, by omega, ?_⟩)) hW
    exact Nat.xor_lt_two_pow (hW.2.2.1 _ h.2.1) (Nat.pow_lt_pow_right (by decide) h.2.2)
  · rw [h.1]; exact setD_W (by omega) hW
  · rw [h.1]; exact setD_W (by omega) hW
  · rw [h.1]; exact setD_W (by omega) hW
  · rw [h]; exact hW
  · rw [h.1]; exact hW
theorem doX_W {D : Nat → Nat} {r c : Nat} {X : Nat → Nat} {q : Nat × (Nat → Nat)} (hX : WX r c X) (h : vC D r q) : WX (doR q.1 r) (doC q.1 q.2 c) (doX q.1 q.2 r X) := by
  obtain ⟨x1, x2, x3, x4⟩ := hX
  have triv : WX r c X := ⟨x1, x2, x3, x4⟩
  unfold vC at h
  rcases h with h | h | h | h | h | h | h | h
  · rw [h.1]; exact triv
  · rw [h.1]; exact triv
  · rw [h.1]; exact triv
  · rw [h.1]; exact triv
  · rw [h.1]; exact triv
  · rw [h.1]; exact triv
  · rw [h]; exact ⟨Nat.zero_le _, Nat.zero_le _, fun z => absurd z (Nat.not_succ_le_zero 0), fun i hi => absurd hi (Nat.not_lt_zero _)⟩
  · rw [h.1]
    refine ⟨show r + 1 ≤ 12 by omega, show q.2 1 ≤ 12 by omega, fun _ => show 1 ≤ q.2 1 by omega, fun i hi => ?_⟩
    show setD X r (q.2 0) i < 4096
    have hi2 : i < r + 1 := hi
    by_cases e : i = r
    · rw [e, setD_s]; exact h.2.2.2.2
    · rw [setD_n e]; exact x4 i (by omega)
theorem doS_g {S : dSt} {q : Nat × (Nat → Nat)} (hg : gS S) (h : vC S.1 S.2.1 q) : gS (doS q S) := ⟨doD_W hg.1 h, doX_W hg.2 h⟩
theorem doL_g : ∀ (L : List (Nat × (Nat → Nat))) (S : dSt), gS S → vL L S → gS (doL L S)
  | [], _, hg, _ => hg
  | _ :: L, _, hg, h => doL_g L _ (doS_g hg h.1) h.2
/-- what is told ahead fits the draft and the sample -/
def rS (R : Nat → Nat) (S : dSt) : Prop := (∀ j, j < 4 → R j = S.1 j) ∧ R 4 = S.2.1 ∧ (1 ≤ R 4 → R 5 = S.2.2.1)
theorem rS_W {R : Nat → Nat} {S : dSt} (h : rS R S) (hg : gS S) (h5 : R 5 ≤ 12) : WR R := by
  have w := hg.1.1
  have r0 := h.1 0 (by omega)
  have r1 := h.1 1 (by omega)
  have r2 := h.1 2 (by omega)
  have r3 := h.1 3 (by omega)
  have x := hg.2.1
  have r4 := h.2.1
  unfold WR
  omega
theorem nxR_5 {R : Nat → Nat} {w : Nat} {N : Nat → Nat} (h5 : R 5 ≤ 12) (h7 : w = 7 → N 1 ≤ 12) : nxR R w N 5 ≤ 12 := by
  unfold nxR
  split
  · exact h5
  · split
    · exact Nat.zero_le _
    · split
      · next h => exact h7 h
      · exact h5
theorem nxR_S {R : Nat → Nat} {S : dSt} {q : Nat × (Nat → Nat)} (h : rS R S) (hg : gS S) (hv : vC S.1 S.2.1 q) : rS (nxR R q.1 q.2) (doS q S) := by
  obtain ⟨h1, h2, h3⟩ := h
  have set4 : ∀ (b i v : Nat), 4 ≤ b → (∀ j, j < 4 → R j = setD S.1 (b + i) v j) := fun b i v hb j hj => by rw [setD_n (by omega)]; exact h1 j hj
  obtain ⟨w, N⟩ := q
  unfold vC at hv
  dsimp only at hv ⊢
  rcases hv with h | h | h | h | h | h | h | h
  · obtain ⟨rfl, -⟩ := h
    refine ⟨fun j hj => ?_, h2, h3⟩
    show (if j < 4 then N j else R j) = bgN (N 0) (N 1) (N 2) (N 3) j
    rw [if_pos hj]
    have : j = 0 ∨ j = 1 ∨ j = 2 ∨ j = 3 := by omega
    rcases this with rfl | rfl | rfl | rfl <;> rfl
  · obtain ⟨rfl, -⟩ := h; exact ⟨set4 4 _ _ (by omega), h2, h3⟩
  · obtain ⟨rfl, -⟩ := h; exact ⟨set4 16 _ _ (by omega), h2, h3⟩
  · obtain ⟨rfl, -⟩ := h; exact ⟨set4 22 _ _ (by omega), h2, h3⟩
  · obtain ⟨rfl, -⟩ := h; exact ⟨set4 34 _ _ (by omega), h2, h3⟩
  · obtain ⟨rfl, -⟩ := h; exact ⟨set4 46 _ _ (by omega), h2, h3⟩
  · subst h
    refine ⟨fun j hj => ?_, rfl, fun z => absurd z (Nat.not_succ_le_zero 0)⟩
    show (if j < 4 then R j else 0) = S.1 j
    rw [if_pos hj]; exact h1 j hj
  · obtain ⟨rfl, -⟩ := h
    refine ⟨fun j hj => ?_, ?_, fun z => rfl⟩
    · show (if j < 4 then R j else if j = 4 then R 4 + 1 else N 1) = S.1 j
      rw [if_pos hj]; exact h1 j hj
    · show R 4 + 1 = S.2.1 + 1
      rw [h2]
theorem clz_v {n : Nat} {T : Nat → Nat} {R : Nat → Nat} {p p' : Nat} {N : Nat → Nat} {S : dSt} (h : rS R S) (hg : gS S) (hc : clz n T R p = (true, p', N)) : vC S.1 S.2.1 (clW n T p, N) := by
  have w := hg.1.1
  have r0 := h.1 0 (by omega)
  have r1 := h.1 1 (by omega)
  have r2 := h.1 2 (by omega)
  have r3 := h.1 3 (by omega)
  have r4 := h.2.1
  unfold clz at hc
  split at hc
  · next hb =>
    unfold clB at hb
    rw [decide_eq_true_eq] at hb
    generalize clW n T p = v at *
    unfold clR at hc
    unfold vC
    dsimp only
    split at hc
    · next h7 =>
      split at hc
      · next hr =>
        cases hc
        have h12 := rwN_bd hr
        have h13 := hb.2 h7
        exact Or.inr (Or.inr (Or.inr (Or.inr (Or.inr (Or.inr (Or.inr ⟨h7, by rw [← r4]; exact h13, h12⟩))))))
      · cases hc
    · next h7 =>
      have hb1 : (rn n T (nmL v) (nmH R v) (nmC v) 0 (te n T p) (fun _ => 0)).1 = true := by rw [hc]
      have bd := rn_bd _ _ _ _ hb1
      rw [hc] at bd
      dsimp only at bd
      have hv : v = 0 ∨ v = 1 ∨ v = 2 ∨ v = 3 ∨ v = 4 ∨ v = 5 ∨ v = 6 := by omega
      rcases hv with rfl | rfl | rfl | rfl | rfl | rfl | rfl
      · have b0 := bd 0 (by omega) (by decide)
        have b1 := bd 1 (by omega) (by decide)
        have b2 := bd 2 (by omega) (by decide)
        have b3 := bd 3 (by omega) (by decide)
        simp only [nmL, nmH, ↓reduceIte, show (0:Nat) < 2 by decide, show (1:Nat) < 2 by decide, show ¬ (2:Nat) < 2 by decide, show ¬ (3:Nat) < 2 by decide] at b0 b1 b2 b3
        exact Or.inl ⟨rfl, b0.1, b0.2, b1.1, b1.2, b2.1, b2.2, b3.1, b3.2⟩
      · have b0 := bd 0 (by omega) (by decide)
        have b1 := bd 1 (by omega) (by decide)
        simp only [nmH, ↓reduceIte, Nat.one_ne_zero] at b0 b1
        exact Or.inr (Or.inl ⟨rfl, by omega, by omega⟩)
      · have b0 := bd 0 (by omega) (by decide)
        have b1 := bd 1 (by omega) (by decide)
        simp only [nmH, ↓reduceIte, Nat.one_ne_zero, show ¬ (2:Nat) = 0 by decide, show ¬ (2:Nat) = 1 by decide] at b0 b1
        exact Or.inr (Or.inr (Or.inl ⟨rfl, by omega, by omega⟩))
      · have b0 := bd 0 (by omega) (by decide)
        have b1 := bd 1 (by omega) (by decide)
        simp only [nmH, ↓reduceIte, Nat.one_ne_zero, show ¬ (3:Nat) = 0 by decide, show ¬ (3:Nat) = 1 by decide, show ¬ (3:Nat) = 2 by decide] at b0 b1
        exact Or.inr (Or.inr (Or.inr (Or.inl ⟨rfl, by omega, by omega⟩)))
      · have b0 := bd 0 (by omega) (by decide)
        have b1 := bd 1 (by omega) (by decide)
        simp only [nmH, ↓reduceIte, Nat.one_ne_zero, show ¬ (4:Nat) = 0 by decide, show ¬ (4:Nat) = 1 by decide, show ¬ (4:Nat) = 2 by decide, show ¬ (4:Nat) = 3 by decide] at b0 b1
        exact Or.inr (Or.inr (Or.inr (Or.inr (Or.inl ⟨rfl, by omega, by omega⟩))))
      · have b0 := bd 0 (by omega) (by decide)
        have b1 := bd 1 (by omega) (by decide)
        simp only [nmH, ↓reduceIte, Nat.one_ne_zero, show ¬ (5:Nat) = 0 by decide, show ¬ (5:Nat) = 1 by decide, show ¬ (5:Nat) = 2 by decide, show ¬ (5:Nat) = 3 by decide, show ¬ (5:Nat) = 4 by decide] at b0 b1
        exact Or.inr (Or.inr (Or.inr (Or.inr (Or.inr (Or.inl ⟨rfl, by omega, by omega⟩)))))
      · exact Or.inr (Or.inr (Or.inr (Or.inr (Or.inr (Or.inr (Or.inl rfl))))))
  · cases hc
theorem clz_le {n : Nat} {T : Nat → Nat} {R : Nat → Nat} {p : Nat} (hp : p ≤ n) : (clz n T R p).2.1 ≤ n := by
  have h := (te_le (T := T) hp).2.1
  unfold clz
  split
  · unfold clR
    split
    · split
      · exact (te_le h).2.1
      · exact h
    · exact rn_le _ _ _ _ h
  · exact hp
theorem clz_7 {n : Nat} {T : Nat → Nat} {R : Nat → Nat} {p p' : Nat} {N : Nat → Nat} (hc : clz n T R p = (true, p', N)) (h7 : clW n T p = 7) : N 1 ≤ 12 ∧ R 4 < 12 := by
  unfold clz at hc
  split at hc
  · next hb =>
    unfold clB at hb
    rw [decide_eq_true_eq] at hb
    unfold clR at hc
    rw [if_pos h7] at hc
    split at hc
    · next hr =>
      cases hc
      exact ⟨(rwN_bd hr).2.1, hb.2 h7⟩
    · cases hc
  · cases hc
theorem rd_v {n : Nat} {T : Nat → Nat} : ∀ (k p : Nat) (R : Nat → Nat) (S : dSt), rS R S → gS S → (rd n T k p R).1 = true → vL (rd n T k p R).2.2 S := by
  intro k
  induction k with
  | zero => intro p R S h hg hb; cases hb
  | succ k ih =>
    intro p R S h hg hb
    unfold rd at hb ⊢
    split at hb
    · cases hb
    · next p' N hc =>
      simp only [hc]
      have hv := clz_v h hg hc
      split at hb
      · next h1 =>
        split at hb
        · next h2 =>
          rw [if_pos h1, if_pos h2]
          exact ⟨hv, ih _ _ _ (nxR_S h hg hv) (doS_g hg hv) hb⟩
        · cases hb
      · next h1 =>
        rw [if_neg h1]
        exact ⟨hv, trivial⟩
theorem rd_len {n : Nat} {T : Nat → Nat} : ∀ (k p : Nat) (R : Nat → Nat), (rd n T k p R).2.2.length ≤ k := by
  intro k
  induction k with
  | zero => intro p R; exact Nat.le_refl _
  | succ k ih =>
    intro p R
    unfold rd
    split
    · exact Nat.zero_le _
    · split
      · split
        · exact Nat.succ_le_succ (ih _ _)
        · exact Nat.zero_le _
      · exact Nat.succ_le_succ (Nat.zero_le _)
theorem rd_le {n : Nat} {T : Nat → Nat} : ∀ (k p : Nat) (R : Nat → Nat), p ≤ n → (rd n T k p R).2.1 ≤ n := by
  intro k
  induction k with
  | zero => intro p R h; exact h
  | succ k ih =>
    intro p R h
    have hz := clz_le (T := T) (R := R) h
    unfold rd
    split
    · next hc => rw [hc] at hz; exact hz
    · next hc =>
      rw [hc] at hz
      split
      · split
        · exact ih _ _ (te_le hz).2.1
        · exact hz
      · exact hz
