/-! the fewest crossings turned: by steps, and by trying all -/
/-- no k + 1 in a row, below n, are all b -/
def win (g : Nat → Bool) (b : Bool) (k n : Nat) : Prop := ∀ s, s + k < n → ∃ j, s ≤ j ∧ j ≤ s + k ∧ g j = !b
theorem lrF_win (f : Nat → Bool) (k : Nat) : ∀ (m i lo ru : Nat), ru ≤ i → (∀ j, i - ru ≤ j → j < i → f j = true) → (ru < i → f (i - ru - 1) = false) → (lo ≤ k ↔ win f true k i) → (lrF f m i lo ru ≤ k ↔ win f true k (i + m)) := by
  intro m
  induction m with
  | zero => intro i lo ru h1 h2 h3 h4; exact h4
  | succ m ih =>
    intro i lo ru h1 h2 h3 h4
    unfold lrF
    rw [show i + (m + 1) = i + 1 + m by omega]
    cases hf : f i with
    | true =>
      rw [if_pos rfl]
      refine ih (i + 1) _ (ru + 1) (by omega) (fun j a b => ?_) (fun a => ?_) ?_
      · by_cases e : j = i
        · rw [e]; exact hf
        · exact h2 j (by omega) (by omega)
      · rw [show i + 1 - (ru + 1) - 1 = i - ru - 1 by omega]
        exact h3 (by omega)
      · constructor
        · intro hm s hs
          by_cases hs2 : s + k < i
          · exact h4.mp (by omega) s hs2
          · refine ⟨i - ru - 1, by omega, by omega, h3 (by omega)⟩
        · intro hw
          have h5 : lo ≤ k := h4.mpr (fun s hs => hw s (by omega))
          by_cases h6 : ru + 1 ≤ k
          · omega
          · exfalso
            by_cases h7 : k ≤ i
            · obtain ⟨j, a, b, c⟩ := hw (i - k) (by omega)
              have : f j = true := by
                by_cases e : j = i
                · rw [e]; exact hf
                · exact h2 j (by omega) (by omega)
              rw [this] at c
              cases c
            · omega
    | false =>
      rw [if_neg (by simp)]
      refine ih (i + 1) lo 0 (by omega) (fun j a b => absurd b (by omega)) (fun _ => by rw [show i + 1 - 0 - 1 = i by omega]; exact hf) ?_
      constructor
      · intro hl s hs
        by_cases hs2 : s + k < i
        · exact h4.mp hl s hs2
        · exact ⟨i, by omega, by omega, hf⟩
      · intro hw
        exact h4.mpr (fun s hs => hw s (by omega))
theorem lrun_win (f : Nat → Bool) (k n : Nat) : lrun f n ≤ k ↔ win f true k n := by
  have := lrF_win f k n 0 0 0 (by omega) (fun j a b => absurd b (by omega)) (fun a => absurd a (by omega)) ⟨fun _ s hs => absurd hs (by omega), fun _ => by omega⟩
  rw [Nat.zero_add] at this
  exact this
theorem lrunN_win (f : Nat → Bool) (k n : Nat) : lrun (fun i => !f i) n ≤ k ↔ win f false k n := by
  rw [lrun_win]
  constructor
  · intro h s hs
    obtain ⟨j, a, b, c⟩ := h s hs
    exact ⟨j, a, b, by simpa using c⟩
  · intro h s hs
    obtain ⟨j, a, b, c⟩ := h s hs
    exact ⟨j, a, b, by simpa using c⟩
def vld (g : Nat → Bool) (k n : Nat) : Prop := ∀ b, win g b k n
theorem vld_iff (g : Nat → Bool) (k n : Nat) : vld g k n ↔ lrun g n ≤ k ∧ lrun (fun i => !g i) n ≤ k := by
  rw [lrun_win, lrunN_win]
  exact ⟨fun h => ⟨h true, h false⟩, fun h b => by cases b; exact h.2; exact h.1⟩
/-- a run of r from lo on that becomes b: how many are turned -/
def cs (f : Nat → Bool) (b : Bool) (lo r : Nat) : Nat := if b = true then r - cnt (fun i => f (lo + i)) r else cnt (fun i => f (lo + i)) r
def cost (f g : Nat → Bool) (n : Nat) : Nat := cnt (fun i => f i != g i) n
theorem cnt_add (h : Nat → Bool) (m : Nat) : ∀ r, cnt h (m + r) = cnt h m + cnt (fun i => h (m + i)) r
  | 0 => rfl
  | r + 1 => by
    show cnt h (m + r) + b2n (h (m + r)) = cnt h m + (cnt (fun i => h (m + i)) r + b2n (h (m + r)))
    rw [cnt_add h m r]
    omega
theorem cnt_not (h : Nat → Bool) : ∀ r, cnt (fun i => !h i) r + cnt h r = r
  | 0 => rfl
  | r + 1 => by
    show cnt (fun i => !h i) r + b2n (!h r) + (cnt h r + b2n (h r)) = r + 1
    have := cnt_not h r
    have : b2n (!h r) + b2n (h r) = 1 := by cases h r <;> rfl
    omega
theorem cs_cnt (f : Nat → Bool) (b : Bool) (lo r : Nat) : cs f b lo r = cnt (fun i => f (lo + i) != b) r := by
  unfold cs
  cases b with
  | true =>
    rw [if_pos rfl]
    have h := cnt_not (fun i => f (lo + i)) r
    rw [cnt_congr (f := fun i => f (lo + i) != true) (f' := fun i => !f (lo + i)) r (fun i _ => by cases f (lo + i) <;> rfl)]
    omega
  | false =>
    rw [if_neg (by simp)]
    exact cnt_congr r (fun i _ => by cases f (lo + i) <;> rfl)
theorem cost_split (f g : Nat → Bool) (b : Bool) {n r : Nat} (hr : r ≤ n) (hg : ∀ i, n - r ≤ i → i < n → g i = b) : cost f g n = cost f g (n - r) + cs f b (n - r) r := by
  unfold cost
  have h := cnt_add (fun i => f i != g i) (n - r) r
  rw [show n - r + r = n by omega] at h
  rw [h, cs_cnt]
  congr 1
  exact cnt_congr r (fun i hi => by rw [hg (n - r + i) (by omega) (by omega)])
theorem cs_le (f : Nat → Bool) (b : Bool) (lo r : Nat) : cs f b lo r ≤ r := by
  rw [cs_cnt]; exact cnt_le _ _
/-- the least over runs 1 .. r -/
def iN (f : Nat → Bool) (T : Bool → Nat → Nat) (b : Bool) (n : Nat) : Nat → Nat
  | 0 => 13
  | r + 1 => min (iN f T b n r) (T (!b) (n - (r + 1)) + cs f b (n - (r + 1)) (r + 1))
theorem iN_le (f : Nat → Bool) (T : Bool → Nat → Nat) (b : Bool) (n : Nat) : ∀ r j, 1 ≤ j → j ≤ r → iN f T b n r ≤ T (!b) (n - j) + cs f b (n - j) j := by
  intro r
  induction r with
  | zero => intro j h1 h2; omega
  | succ r ih =>
    intro j h1 h2
    unfold iN
    by_cases e : j = r + 1
    · rw [e]; exact Nat.min_le_right _ _
    · exact Nat.le_trans (Nat.min_le_left _ _) (ih j h1 (by omega))
theorem iN_at (f : Nat → Bool) (T : Bool → Nat → Nat) (b : Bool) (n : Nat) : ∀ r, iN f T b n r = 13 ∨ ∃ j, 1 ≤ j ∧ j ≤ r ∧ iN f T b n r = T (!b) (n - j) + cs f b (n - j) j := by
  intro r
  induction r with
  | zero => exact Or.inl rfl
  | succ r ih =>
    unfold iN
    by_cases h : iN f T b n r ≤ T (!b) (n - (r + 1)) + cs f b (n - (r + 1)) (r + 1)
    · rw [Nat.min_eq_left h]
      rcases ih with ih | ⟨j, a, c, d⟩
      · exact Or.inl ih
      · exact Or.inr ⟨j, a, by omega, d⟩
    · rw [Nat.min_eq_right (by omega)]
      exact Or.inr ⟨r + 1, by omega, by omega, rfl⟩
/-- the table up to n -/
def dT (f : Nat → Bool) (k : Nat) : Nat → Bool → Nat → Nat
  | 0 => fun _ _ => 0
  | n + 1 => fun b m => if m = n + 1 then iN f (dT f k n) b (n + 1) (min k (n + 1)) else dT f k n b m
def dp (f : Nat → Bool) (k : Nat) (b : Bool) (n : Nat) : Nat := dT f k n b n
theorem dT_lt (f : Nat → Bool) (k : Nat) (b : Bool) : ∀ n m, m ≤ n → dT f k n b m = dp f k b m := by
  intro n
  induction n with
  | zero => intro m h; have : m = 0 := by omega
            subst this; rfl
  | succ n ih =>
    intro m h
    by_cases e : m = n + 1
    · rw [e]; rfl
    · show (if m = n + 1 then _ else dT f k n b m) = _
      rw [if_neg e]; exact ih m (by omega)
theorem iN_congr {f : Nat → Bool} {T T' : Bool → Nat → Nat} {b : Bool} {n : Nat} : ∀ r, r ≤ n → (∀ b m, m < n → T b m = T' b m) → iN f T b n r = iN f T' b n r := by
  intro r
  induction r with
  | zero => intros; rfl
  | succ r ih =>
    intro h1 h2
    unfold iN
    rw [ih (by omega) h2, h2 (!b) (n - (r + 1)) (by omega)]
theorem dp_0 (f : Nat → Bool) (k : Nat) (b : Bool) : dp f k b 0 = 0 := rfl
theorem dp_s (f : Nat → Bool) (k : Nat) (b : Bool) (n : Nat) : dp f k b (n + 1) = iN f (dp f k) b (n + 1) (min k (n + 1)) := by
  show (if n + 1 = n + 1 then iN f (dT f k n) b (n + 1) (min k (n + 1)) else _) = _
  rw [if_pos rfl]
  exact iN_congr _ (by omega) (fun b m hm => dT_lt f k b n m (by omega))
theorem dp_le (f : Nat → Bool) (k : Nat) (hk : 1 ≤ k) : ∀ n b, dp f k b n ≤ n := by
  intro n
  induction n with
  | zero => intro b; exact Nat.le_refl 0
  | succ n ih =>
    intro b
    rw [dp_s]
    have h1 := iN_le f (dp f k) b (n + 1) (min k (n + 1)) 1 (by omega) (by omega)
    have h2 := ih (!b)
    have h3 := cs_le f b (n + 1 - 1) 1
    rw [show n + 1 - 1 = n by omega] at h1 h3
    omega
theorem tail_run (g : Nat → Bool) (b : Bool) : ∀ n, 1 ≤ n → g (n - 1) = b → ∃ r, 1 ≤ r ∧ r ≤ n ∧ (∀ i, n - r ≤ i → i < n → g i = b) ∧ (r < n → g (n - r - 1) = !b) := by
  intro n
  induction n with
  | zero => intro h; omega
  | succ n ih =>
    intro _ hg
    rw [show n + 1 - 1 = n by omega] at hg
    by_cases h0 : 1 ≤ n ∧ g (n - 1) = b
    · obtain ⟨r, a, c, d, e⟩ := ih h0.1 h0.2
      refine ⟨r + 1, by omega, by omega, fun i h1 h2 => ?_, fun h => ?_⟩
      · by_cases hi : i = n
        · rw [hi]; exact hg
        · exact d i (by omega) (by omega)
      · rw [show n + 1 - (r + 1) - 1 = n - r - 1 by omega]; exact e (by omega)
    · refine ⟨1, by omega, by omega, fun i h1 h2 => ?_, fun h => ?_⟩
      · rw [show i = n by omega]; exact hg
      · rw [show n + 1 - 1 - 1 = n - 1 by omega]
        have h1 : ¬ g (n - 1) = b := fun z => h0 ⟨by omega, z⟩
        revert h1
        cases g (n - 1) <;> cases b <;> simp
theorem dp_low (f : Nat → Bool) (k : Nat) (hk : 1 ≤ k) (g : Nat → Bool) : ∀ N n, n ≤ N → 1 ≤ n → vld g k n → dp f k (g (n - 1)) n ≤ cost f g n := by
  intro N
  induction N with
  | zero => intro n h1 h2; omega
  | succ N ih =>
    intro n hN hn hv
    obtain ⟨r, a, c, d, e⟩ := tail_run g (g (n - 1)) n hn rfl
    have hrk : r ≤ k := by
      by_cases h : r ≤ k
      · exact h
      · exfalso
        obtain ⟨j, x, y, z⟩ := hv (g (n - 1)) (n - 1 - k) (by omega)
        rw [d j (by omega) (by omega)] at z
        revert z
        cases g (n - 1) <;> simp
    rw [cost_split f g (g (n - 1)) c d]
    have hs := dp_s f k (g (n - 1)) (n - 1)
    rw [show n - 1 + 1 = n by omega] at hs
    rw [hs]
    refine Nat.le_trans (iN_le f (dp f k) (g (n - 1)) n (min k n) r a (by omega)) ?_
    apply Nat.add_le_add_right
    by_cases h0 : r = n
    · rw [h0, Nat.sub_self]; exact Nat.zero_le _
    · have h1 := ih (n - r) (by omega) (by omega) (fun b s hs => hv b s (by omega))
      rw [e (by omega)] at h1
      exact h1
theorem dp_att (f : Nat → Bool) (k : Nat) (hk : 1 ≤ k) : ∀ N n, n ≤ N → n ≤ 12 → ∀ b, ∃ g, vld g k n ∧ cost f g n ≤ dp f k b n ∧ (1 ≤ n → g (n - 1) = b) := by
  intro N
  induction N with
  | zero =>
    intro n h1 h2 b
    have : n = 0 := by omega
    subst this
    exact ⟨fun _ => b, fun _ s hs => absurd hs (by omega), Nat.le_refl _, fun h => absurd h (by omega)⟩
  | succ N ih =>
    intro n hN h12 b
    by_cases h0 : n = 0
    · subst h0
      exact ⟨fun _ => b, fun _ s hs => absurd hs (by omega), Nat.le_refl _, fun h => absurd h (by omega)⟩
    · have hs := dp_s f k b (n - 1)
      rw [show n - 1 + 1 = n by omega] at hs
      have hl := dp_le f k hk n b
      rcases iN_at f (dp f k) b n (min k n) with h13 | ⟨r, r1, r2, r3⟩
      · omega
      · obtain ⟨g0, v0, c0, l0⟩ := ih (n - r) (by omega) (by omega) (!b)
        have hg1 : ∀ i, n - r ≤ i → i < n → (fun i => if i < n - r then g0 i else b) i = b := fun i a c => by
          show (if i < n - r then g0 i else b) = b
          rw [if_neg (by omega)]
        refine ⟨fun i => if i < n - r then g0 i else b, fun b2 s hs2 => ?_, ?_, fun _ => hg1 (n - 1) (by omega) (by omega)⟩
        · by_cases hc : s + k < n - r
          · obtain ⟨j, x, y, z⟩ := v0 b2 s hc
            refine ⟨j, x, y, ?_⟩
            show (if j < n - r then g0 j else b) = !b2
            rw [if_pos (by omega)]; exact z
          · by_cases hb : b = b2
            · refine ⟨n - r - 1, by omega, by omega, ?_⟩
              show (if n - r - 1 < n - r then g0 (n - r - 1) else b) = !b2
              rw [if_pos (by omega), l0 (by omega), hb]
            · refine ⟨n - r, by omega, by omega, ?_⟩
              rw [hg1 (n - r) (by omega) (by omega)]
              revert hb
              cases b <;> cases b2 <;> simp
        · rw [cost_split f _ b (show r ≤ n by omega) hg1, hs, r3]
          apply Nat.add_le_add_right
          have : cost f (fun i => if i < n - r then g0 i else b) (n - r) = cost f g0 (n - r) := cnt_congr _ (fun i hi => by simp only [hi, ↓reduceIte])
          rw [this]; exact c0
/-- by steps -/
def tmN (f : Nat → Bool) (k e : Nat) : Nat := min (dp f k true e) (dp f k false e)
/-- by trying all -/
def mF (ok : Nat → Bool) (v : Nat → Nat) : Nat → Nat → Nat → Nat
  | 0, _, best => best
  | m + 1, s, best => mF ok v m (s + 1) (if v s < best ∧ ok s = true then v s else best)
theorem mF_le (ok : Nat → Bool) (v : Nat → Nat) : ∀ m s best, mF ok v m s best ≤ best := by
  intro m
  induction m with
  | zero => intros; exact Nat.le_refl _
  | succ m ih =>
    intro s best
    unfold mF
    refine Nat.le_trans (ih _ _) ?_
    split
    · omega
    · omega
theorem mF_all (ok : Nat → Bool) (v : Nat → Nat) : ∀ m s best j, s ≤ j → j < s + m → ok j = true → mF ok v m s best ≤ v j := by
  intro m
  induction m with
  | zero => intro s best j h1 h2; omega
  | succ m ih =>
    intro s best j h1 h2 h3
    unfold mF
    by_cases e : j = s
    · subst e
      refine Nat.le_trans (mF_le ok v _ _ _) ?_
      by_cases h : v j < best
      · rw [if_pos ⟨h, h3⟩]; exact Nat.le_refl _
      · rw [if_neg (fun z => h z.1)]; omega
    · exact ih _ _ j (by omega) (by omega) h3
theorem mF_at (ok : Nat → Bool) (v : Nat → Nat) : ∀ m s best, mF ok v m s best = best ∨ ∃ j, s ≤ j ∧ j < s + m ∧ ok j = true ∧ mF ok v m s best = v j := by
  intro m
  induction m with
  | zero => intros; exact Or.inl rfl
  | succ m ih =>
    intro s best
    unfold mF
    by_cases h : v s < best ∧ ok s = true
    · rw [if_pos h]
      rcases ih (s + 1) (v s) with h1 | ⟨j, a, b, c, d⟩
      · exact Or.inr ⟨s, by omega, by omega, h.2, h1⟩
      · exact Or.inr ⟨j, by omega, by omega, c, d⟩
    · rw [if_neg h]
      rcases ih (s + 1) best with h1 | ⟨j, a, b, c, d⟩
      · exact Or.inl h1
      · exact Or.inr ⟨j, by omega, by omega, c, d⟩
def okS (f : Nat → Bool) (k e s : Nat) : Bool := decide (lrun (bt (nI (bits f e) ^^^ nI s)) e ≤ k ∧ lrun (fun i => !bt (nI (bits f e) ^^^ nI s) i) e ≤ k)
theorem xor_bt (f : Nat → Bool) {e s i : Nat} (he : e ≤ 12) (hi : i < e) : bt (nI (bits f e) ^^^ nI s) i = (f i ^^ s.testBit i) := by
  rw [b_xor, bt_bits hi (by omega), bt_nI (by omega)]
theorem tame_eq (f : Nat → Bool) {k e : Nat} (hk : 1 ≤ k) (he : e ≤ 12) (he1 : 1 ≤ e) : mF (okS f k e) (fun s => cnt (bt (nI s)) 12) (2 ^ e) 0 e = tmN f k e := by
  have hlow : ∀ g, vld g k e → tmN f k e ≤ cost f g e := by
    intro g hv
    have h := dp_low f k hk g e e (Nat.le_refl _) he1 hv
    unfold tmN
    cases hg : g (e - 1) with
    | true => rw [hg] at h; omega
    | false => rw [hg] at h; omega
  apply Nat.le_antisymm
  · have hex : ∃ g, vld g k e ∧ cost f g e ≤ tmN f k e := by
      obtain ⟨g1, v1, c1, -⟩ := dp_att f k hk e e (Nat.le_refl _) he true
      obtain ⟨g2, v2, c2, -⟩ := dp_att f k hk e e (Nat.le_refl _) he false
      unfold tmN
      by_cases h : dp f k true e ≤ dp f k false e
      · exact ⟨g1, v1, by omega⟩
      · exact ⟨g2, v2, by omega⟩
    obtain ⟨g, hv, hc⟩ := hex
    refine Nat.le_trans ?_ hc
    have hj := bits_lt (fun i => f i != g i) e
    have hx : ∀ i, i < e → bt (nI (bits f e) ^^^ nI (bits (fun i => f i != g i) e)) i = g i := fun i hi => by
      rw [xor_bt f he hi, bits_test]
      simp only [hi, decide_true, Bool.true_and]
      cases f i <;> cases g i <;> rfl
    have hm := mF_all (okS f k e) (fun s => cnt (bt (nI s)) 12) (2 ^ e) 0 e (bits (fun i => f i != g i) e) (by omega) (by omega) ?_
    · have hv2 : cnt (bt (nI (bits (fun i => f i != g i) e))) 12 = cost f g e := cnt_btb he
      have hm2 : mF (okS f k e) (fun s => cnt (bt (nI s)) 12) (2 ^ e) 0 e ≤ cnt (bt (nI (bits (fun i => f i != g i) e))) 12 := hm
      rw [hv2] at hm2
      exact hm2
    · unfold okS
      rw [lrun_congr hx, lrun_congr (f := fun i => !bt (nI (bits f e) ^^^ nI (bits (fun i => f i != g i) e)) i) (g := fun i => !g i) (fun j hj2 => by rw [hx j hj2])]
      exact decide_eq_true ((vld_iff g k e).mp hv)
  · rcases mF_at (okS f k e) (fun s => cnt (bt (nI s)) 12) (2 ^ e) 0 e with h | ⟨j, a, b, c, d⟩
    · rw [h]
      have := dp_le f k hk e true
      unfold tmN
      omega
    · rw [d]
      have hv : vld (bt (nI (bits f e) ^^^ nI j)) k e := (vld_iff _ k e).mpr (of_decide_eq_true c)
      refine Nat.le_trans (hlow _ hv) ?_
      show cnt (fun i => f i != bt (nI (bits f e) ^^^ nI j) i) e ≤ cnt (bt (nI j)) 12
      have h1 : cnt (fun i => f i != bt (nI (bits f e) ^^^ nI j) i) e = cnt (bt (nI j)) e := cnt_congr e (fun i hi => by
        rw [xor_bt f he hi, bt_nI (by omega)]
        cases f i <;> cases j.testBit i <;> rfl)
      rw [h1, show 12 = e + (12 - e) by omega, cnt_add]
      omega
