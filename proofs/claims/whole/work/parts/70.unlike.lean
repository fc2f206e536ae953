/-! unlike threads, numbered by the first of each -/
def fF (t : Nat → Nat) (p : Nat) : Nat → Nat → Nat
  | 0, k => k
  | m + 1, k => if t k = t p then k else fF t p m (k + 1)
def fL (t : Nat → Nat) (p : Nat) : Nat := fF t p p 0
def nwF (t : Nat → Nat) (k : Nat) : Nat → Bool
  | 0 => true
  | h + 1 => nwF t k h && decide (¬ t h = t k)
def nU (t : Nat → Nat) (n : Nat) : Nat := sm (fun k => b2n (nwF t k k)) n
def nb (t : Nat → Nat) (i : Nat) : Nat := nU t (fL t i)
theorem nU_s (t : Nat → Nat) (n : Nat) : nU t (n + 1) = nU t n + b2n (nwF t n n) := rfl
theorem nwF_all (t : Nat → Nat) (k : Nat) : ∀ n, nwF t k n = true ↔ ∀ h, h < n → ¬ t h = t k
  | 0 => ⟨fun _ h hh => absurd hh (by omega), fun _ => rfl⟩
  | n + 1 => by
    unfold nwF
    rw [Bool.and_eq_true, nwF_all t k n, decide_eq_true_iff]
    constructor
    · intro ⟨a, b⟩ h hh
      by_cases e : h = n
      · rw [e]; exact b
      · exact a h (by omega)
    · intro h
      exact ⟨fun x hx => h x (by omega), h n (by omega)⟩
theorem fF_spec (t : Nat → Nat) (p : Nat) : ∀ m k, k + m = p → (∀ h, h < k → ¬ t h = t p) → (fF t p m k ≤ p ∧ t (fF t p m k) = t p ∧ ∀ h, h < fF t p m k → ¬ t h = t p) := by
  intro m
  induction m with
  | zero =>
    intro k hk hh
    have : k = p := by omega
    subst this
    exact ⟨Nat.le_refl _, rfl, hh⟩
  | succ m ih =>
    intro k hk hh
    unfold fF
    by_cases h : t k = t p
    · rw [if_pos h]; exact ⟨by omega, h, hh⟩
    · rw [if_neg h]
      refine ih (k + 1) (by omega) (fun x hx => ?_)
      by_cases e : x = k
      · rw [e]; exact h
      · exact hh x (by omega)
theorem fL_spec (t : Nat → Nat) (p : Nat) : fL t p ≤ p ∧ t (fL t p) = t p ∧ ∀ h, h < fL t p → ¬ t h = t p := fF_spec t p p 0 (by omega) (fun h hh => absurd hh (by omega))
theorem fL_nw (t : Nat → Nat) (p : Nat) : nwF t (fL t p) (fL t p) = true := by
  obtain ⟨a, b, c⟩ := fL_spec t p
  rw [nwF_all]
  intro h hh
  rw [b]
  exact c h hh
theorem fL_eq {t : Nat → Nat} {p : Nat} (h : nwF t p p = true) : fL t p = p := by
  obtain ⟨a, b, c⟩ := fL_spec t p
  have := (nwF_all t p p).mp h
  by_cases e : fL t p = p
  · exact e
  · exact absurd b (this _ (by omega))
theorem fL_ne {t : Nat → Nat} {p : Nat} (h : ¬ nwF t p p = true) : fL t p < p := by
  obtain ⟨a, b, c⟩ := fL_spec t p
  by_cases e : fL t p = p
  · exfalso
    apply h
    rw [nwF_all]
    rw [e] at c
    exact c
  · omega
theorem fL_fL (t : Nat → Nat) (p : Nat) : fL t (fL t p) = fL t p := fL_eq (fL_nw t p)
theorem nb_fL (t : Nat → Nat) (p : Nat) : nb t (fL t p) = nb t p := by unfold nb; rw [fL_fL]
theorem nb_new {t : Nat → Nat} {p : Nat} (h : nwF t p p = true) : nb t p = nU t p := by unfold nb; rw [fL_eq h]
theorem nU_mono (t : Nat → Nat) {a : Nat} : ∀ b, a ≤ b → nU t a ≤ nU t b
  | 0, h => by have : a = 0 := by omega
               rw [this]; exact Nat.le_refl _
  | b + 1, h => by
    by_cases e : a = b + 1
    · rw [e]; exact Nat.le_refl _
    · have := nU_mono t b (show a ≤ b by omega)
      rw [nU_s]
      omega
theorem nU_le (t : Nat → Nat) (n : Nat) : nU t n ≤ n := by
  have := sm_le (g := fun k => b2n (nwF t k k)) (m := 1) n (fun i _ => b2n_le _)
  unfold nU
  omega
theorem nU_step {t : Nat → Nat} {a b : Nat} (h : nwF t a a = true) (hab : a < b) : nU t a + 1 ≤ nU t b := by
  have := nU_mono t (a := a + 1) b (by omega)
  rw [nU_s, h] at this
  exact this
theorem nb_lt {t : Nat → Nat} {i n : Nat} (h : i < n) : nb t i < nU t n := by
  have := nU_step (fL_nw t i) (show fL t i < n by have := (fL_spec t i).1; omega)
  unfold nb
  omega
theorem nb_inj {t : Nat → Nat} {a b : Nat} (h : nb t a = nb t b) : t a = t b := by
  have h1 := fL_nw t a
  have h2 := fL_nw t b
  have e : fL t a = fL t b := by
    unfold nb at h
    by_cases c1 : fL t a < fL t b
    · have := nU_step h1 c1; omega
    · by_cases c2 : fL t b < fL t a
      · have := nU_step h2 c2; omega
      · omega
  rw [← (fL_spec t a).2.1, ← (fL_spec t b).2.1, e]
theorem nb_sur (t : Nat → Nat) : ∀ n j, j < nU t n → ∃ q, q < n ∧ nb t q = j := by
  intro n
  induction n with
  | zero => intro j hj; exact absurd hj (by have := nU_le t 0; omega)
  | succ n ih =>
    intro j hj
    by_cases h : j < nU t n
    · obtain ⟨q, a, b⟩ := ih j h
      exact ⟨q, by omega, b⟩
    · rw [nU_s] at hj
      cases hw : nwF t n n with
      | true =>
        rw [hw] at hj
        have : b2n true = 1 := rfl
        exact ⟨n, by omega, by rw [nb_new hw]; omega⟩
      | false =>
        rw [hw] at hj
        have : b2n false = 0 := rfl
        omega
theorem nU_new {t : Nat → Nat} {i : Nat} (h : nwF t i i = true) : nU t (i + 1) = nU t i + 1 := by rw [nU_s, h]; rfl
theorem nU_old {t : Nat → Nat} {i : Nat} (h : nwF t i i = false) : nU t (i + 1) = nU t i := by rw [nU_s, h]; rfl
theorem nU_pos {t : Nat → Nat} {n : Nat} (h : 1 ≤ n) : 1 ≤ nU t n := by
  have := nU_mono t (a := 1) n h
  have h2 : nU t 1 = 1 := rfl
  omega
/-- united -/
def orF (g : Nat → Nat) : Nat → Nat
  | 0 => 0
  | n + 1 => orF g n ||| g n
theorem orF_lt {g : Nat → Nat} {m : Nat} : ∀ n, (∀ i, i < n → g i < 2 ^ m) → orF g n < 2 ^ m
  | 0, _ => Nat.two_pow_pos m
  | n + 1, h => Nat.or_lt_two_pow (orF_lt n (fun i hi => h i (by omega))) (h n (by omega))
theorem orF_congr {g g' : Nat → Nat} : ∀ n, (∀ i, i < n → g i = g' i) → orF g n = orF g' n
  | 0, _ => rfl
  | n + 1, h => by
    unfold orF
    rw [orF_congr n (fun i hi => h i (by omega)), h n (by omega)]
theorem orF_one {g : Nat → Nat} {v : Nat} : ∀ n, (∀ i, i < n → g i = 0 ∨ g i = v) → (∃ i, i < n ∧ g i = v) → orF g n = v
  | 0, _, ⟨i, hi, _⟩ => absurd hi (by omega)
  | n + 1, h, ⟨i, hi, hv⟩ => by
    unfold orF
    have h0 : ∀ m, m ≤ n → orF g m = 0 ∨ orF g m = v := by
      intro m
      induction m with
      | zero => intro _; exact Or.inl rfl
      | succ m ih =>
        intro hm
        unfold orF
        rcases ih (by omega) with e | e <;> rcases h m (by omega) with e2 | e2 <;> rw [e, e2]
        · exact Or.inl rfl
        · exact Or.inr (by simp)
        · exact Or.inr (by simp)
        · exact Or.inr (by simp)
    by_cases e : i = n
    · subst e
      rw [hv]
      rcases h0 i (Nat.le_refl _) with z | z <;> rw [z] <;> simp
    · rw [orF_one n (fun j hj => h j (by omega)) ⟨i, by omega, hv⟩]
      rcases h n (by omega) with z | z <;> rw [z] <;> simp
theorem bits_orF (f : Nat → Bool) : ∀ n, bits f n = orF (fun i => if f i = true then 2 ^ i else 0) n
  | 0 => rfl
  | n + 1 => by
    unfold bits orF
    rw [bits_orF f n]
/-! a sample: rows of crosses -/
def colX (X : Nat → Nat) (r i : Nat) : Nat := bits (fun j => (X j).testBit i) r
def shX (X : Nat → Nat) (r c : Nat) : Nat := nU (colX X r) c
def trX (X : Nat → Nat) (r : Nat) : Nat := nU X r
def sU (X : Nat → Nat) (r c q : Nat) : Nat := orF (fun i => if (X q).testBit i = true then 2 ^ nb (colX X r) i else 0) c
def tdX (X : Nat → Nat) (r c j : Nat) : Nat := orF (fun q => if nb X q = j then sU X r c q else 0) r
/-- the draft of a sample -/
def smD (X : Nat → Nat) (r c : Nat) (j : Nat) : Nat := if j < 4 then bgN c r (shX X r c) (trX X r) j else if j < 16 then (if j < 4 + c then nb (colX X r) (j - 4) else (j - 4) % shX X r c) else if j < 22 then tdX X r c (j - 16) else if j < 34 then (if j < 22 + r then nb X (j - 22) else (j - 22) % trX X r) else bgN c r (shX X r c) (trX X r) j
def WX (r c : Nat) (X : Nat → Nat) : Prop := r ≤ 12 ∧ c ≤ 12 ∧ (1 ≤ r → 1 ≤ c) ∧ ∀ i, i < r → X i < 4096
theorem sU_same {X : Nat → Nat} {r c a b : Nat} (h : X a = X b) : sU X r c a = sU X r c b := by unfold sU; rw [h]
theorem td_at {X : Nat → Nat} {r c q n : Nat} (hq : q < n) : orF (fun p => if nb X p = nb X q then sU X r c p else 0) n = sU X r c q := by
  refine orF_one n (fun i hi => ?_) ⟨q, hq, by simp⟩
  by_cases h : nb X i = nb X q
  · right
    simp only [h, ↓reduceIte]
    exact sU_same (nb_inj h)
  · left
    simp only [h, ↓reduceIte]
theorem sU_lt {X : Nat → Nat} {r c q : Nat} : sU X r c q < 2 ^ shX X r c := orF_lt c (fun i hi => by
  split
  · exact Nat.pow_lt_pow_right (by decide) (nb_lt hi)
  · exact Nat.two_pow_pos _)
theorem smD_W {r c : Nat} {X : Nat → Nat} (h : WX r c X) (h1 : 1 ≤ r) (hs : shX X r c ≤ 6) (ht : trX X r ≤ 6) : WD (smD X r c) := by
  obtain ⟨x1, x2, x3, x4⟩ := h
  have c1 := x3 h1
  have s1 : 1 ≤ shX X r c := nU_pos c1
  have t1 : 1 ≤ trX X r := nU_pos h1
  have e0 : smD X r c 0 = c := rfl
  have e1 : smD X r c 1 = r := rfl
  have e2 : smD X r c 2 = shX X r c := rfl
  have e3 : smD X r c 3 = trX X r := rfl
  unfold WD
  rw [e0, e1, e2, e3]
  refine ⟨by omega, fun i hi => ?_, fun i hi => ?_, fun i hi => ?_, fun i hi => ?_, fun i hi => ?_⟩
  · unfold smD
    rw [if_neg (by omega), if_pos (by omega), Nat.add_sub_cancel_left]
    by_cases hc : 4 + i < 4 + c
    · rw [if_pos hc]; exact nb_lt (by omega)
    · rw [if_neg hc]; exact Nat.mod_lt _ (by omega)
  · unfold smD
    rw [if_neg (by omega), if_neg (by omega), if_pos (by omega)]
    unfold tdX
    refine orF_lt r (fun q hq => ?_)
    split
    · exact sU_lt
    · exact Nat.two_pow_pos _
  · unfold smD
    rw [if_neg (by omega), if_neg (by omega), if_neg (by omega), if_pos (by omega), Nat.add_sub_cancel_left]
    by_cases hc : 22 + i < 22 + r
    · rw [if_pos hc]; exact nb_lt (by omega)
    · rw [if_neg hc]; exact Nat.mod_lt _ (by omega)
  · have := (bgN_W (e := c) (p := r) (s := shX X r c) (t := trX X r) (by omega)).2.2.2.2.1 i hi
    unfold smD
    rw [if_neg (by omega), if_neg (by omega), if_neg (by omega), if_neg (by omega)]
    exact this
  · have := (bgN_W (e := c) (p := r) (s := shX X r c) (t := trX X r) (by omega)).2.2.2.2.2 i hi
    unfold smD
    rw [if_neg (by omega), if_neg (by omega), if_neg (by omega), if_neg (by omega)]
    exact this
/-- is it the cloth of the draft -/
def smB (D : Nat → Nat) (X : Nat → Nat) : Nat → Nat → Bool
  | 0, _ => true
  | m + 1, j => if X j = tP D j then smB D X m (j + 1) else false
def smeB (D : Nat → Nat) (r c : Nat) (X : Nat → Nat) : Bool := if r = D 1 ∧ c = D 0 then smB D X r 0 else false
def lstR (D : Nat → Nat) (r c : Nat) (X : Nat → Nat) (x : Int32) : Int32 := if inr x 5 = true then (if tn x = 0 then nI r else if tn x = 1 then nI c else if tn x = 2 then nI (shX X r c) else if tn x = 3 then nI (trX X r) else nI (b2n (smeB D r c X))) else -3
def smdR (r c : Nat) (X : Nat → Nat) (x y : Int32) : Int32 := if x.toInt < 0 ∨ y.toInt < 0 then -3 else if inr x r = true ∧ inr y c = true then nI (b2n ((X (tn x)).testBit (tn y))) else -1
def CM (σ : ip_G) (r c : Nat) (X : Nat → Nat) : Prop := σ 63 0 = nI r ∧ σ 63 1 = nI c ∧ ∀ i, i < r → σ 64 i = nI (X i)
def MM (σ : ip_G) (r c : Nat) (X : Nat → Nat) : Prop := σ 92 2 = nI r ∧ σ 92 3 = nI c ∧ ∀ i, i < r → σ 94 i = nI (X i)
