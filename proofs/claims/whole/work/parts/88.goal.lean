/-! THE GOAL -/
theorem ct_w {xs : Nat → Int32} {L : Nat} {fm : Value} (hf : ip_fok2 fm) : ip_run xs L fm 1500 0 0 (ip_ent [.ref 0] (ip_mL 0)) [] [ip_d7] = some (none, ip_h1) := by
  rcases hf with rfl | rfl
  · exact run_ind _ _ _ _ _ _ _ (by decide) ((ip_rF_eq _ _ _ _ _ _ _ _ _).symm.trans ct_w0)
  · exact run_ind _ _ _ _ _ _ _ (by decide) ((ip_rF_eq _ _ _ _ _ _ _ _ _).symm.trans ct_w1)
theorem ct_an (E : ip_E) : wp E 122 327 [.ref 92] [.int (nI 2), .int (nI 2), .int (nI 4), .int (nI 4), .ref 92] sg1 (fun r σ => r = none ∧ MD σ 0 (bgN 4 4 2 2) ∧ ∀ k, k ≠ 93 → σ k = sg1 k) := by
  refine (wp_callV (i := 41) (n := 4) (cal := 123) (kind := 0) (q := 92) (tag := 8) (as0 := [.int (nI 4), .int (nI 4), .int (nI 2), .int (nI 2)]) (rest := []) (ls0 := [.ref 92, .int (nI 4), .int (nI 4), .int (nI 2), .int (nI 2), .retAddr 0]) (st := [.int (nI 2), .int (nI 2), .int (nI 4), .int (nI 4), .ref 92]) (show decode (ip_mB 122) 327 = .ok (.invokevirtual 41, 3) from by decide +kernel) ⟨rfl, rfl⟩ rfl (by decide +kernel) (by decide +kernel) rfl rfl (Nat.le_of_ble_eq_true rfl) (Nat.le_of_ble_eq_true rfl) rfl tg_92 (by decide +kernel)).mpr ?_
  refine m_anew E (by omega) _ (fun σ2 g1 _ g3 => ?_)
  rw [wp_sR (r := none) (show decode (ip_mB 122) (327 + 3) = .ok (.return_, 1) from by decide +kernel) rfl (by decide +kernel)]
  exact ⟨rfl, g1, g3⟩
theorem c0_D : CD sg1 2 (bgN 4 4 2 2) := by
  unfold CD
  decide +kernel
theorem c0_s : ∀ t, t < 3 → sg1 (86 + 2 * t) 0 = (if zz0 t 0 = 0 then nI 1 else nI 0) ∧ sg1 (86 + 2 * t) 1 = nI (zz0 t 0 - 1) ∧ sg1 97 t = (if zz0 t 0 = 0 then -1 else nI (zz0 t 0 - 1)) := by decide +kernel
theorem c0_S : CS sg1 zz0 := fun t ht => ⟨(c0_s t ht).1, (c0_s t ht).2.1, fun i hi => absurd hi (Nat.not_lt_zero _)⟩
theorem c0_MS : MS sg1 zz0 := fun t ht => ⟨(c0_s t ht).2.2, fun i hi => absurd hi (Nat.not_lt_zero _)⟩
theorem c0_MW : MW sg1 := by
  unfold MW
  decide +kernel
theorem c0_n : (sg1 13 2 = nI 0 ∧ sg1 13 1 = nI 0 ∧ sg1 63 0 = nI 0 ∧ sg1 63 1 = nI 0 ∧ sg1 68 1 = nI 0) ∧ (sg1 92 2 = nI 0 ∧ sg1 92 3 = nI 0 ∧ sg1 92 4 = nI 0 ∧ sg1 92 7 = nI 0) ∧ ∀ k, k < 2 → sg1 12 k = nI (b2n (kb0 k)) ∧ sg1 95 k = nI (b2n (kb0 k)) := by decide +kernel
theorem c0_W : WX 0 0 (fun _ => 0) := ⟨Nat.zero_le _, Nat.zero_le _, fun z => absurd z (Nat.not_succ_le_zero 0), fun i hi => absurd hi (Nat.not_lt_zero _)⟩
theorem c0_C : jC sg1 (bgN 4 4 2 2) 0 (fun _ _ => 0) 0 0 (fun _ => 0) kb0 (fun _ _ => 0) 0 (fun _ => 0) zz0 := by
  obtain ⟨⟨a1, a2, a3, a4, a5⟩, -, a6⟩ := c0_n
  exact ⟨c0_D, ⟨Nat.zero_le _, a1, ⟨0, by omega, a2, fun i hi => absurd hi (Nat.not_lt_zero _)⟩, fun i hi => absurd hi (Nat.not_lt_zero _)⟩, ⟨a3, a4, fun i hi => absurd hi (Nat.not_lt_zero _)⟩, fun k hk => ⟨(a6 k hk).1, fun z => by cases z⟩, ⟨a5, Nat.zero_le _, fun i hi => absurd hi (Nat.not_lt_zero _)⟩, c0_S⟩
theorem jA_0 {σ : ip_G} (h1 : MD σ 0 (bgN 4 4 2 2)) (h2 : ∀ k, k ≠ 93 → σ k = sg1 k) : jA σ := by
  obtain ⟨-, ⟨a1, a2, a3, a4⟩, a6⟩ := c0_n
  have e92 := h2 92 (by omega)
  have C1 := jC_lo c0_C (σ' := σ) (fun k hk => h2 k (by omega))
  refine jA_i C1 ⟨h1, ⟨Nat.zero_le _, by rw [e92]; exact a3, fun i hi => absurd hi (Nat.not_lt_zero _), fun i hi => absurd hi (Nat.not_lt_zero _)⟩, ⟨by rw [e92]; exact a1, by rw [e92]; exact a2, fun i hi => absurd hi (Nat.not_lt_zero _)⟩, fun k hk => ⟨by rw [h2 95 (by omega)]; exact (a6 k hk).2, fun z => by cases z⟩, ⟨by rw [e92]; exact a4, Nat.zero_le _, fun i hi => absurd hi (Nat.not_lt_zero _)⟩, MS_fr c0_MS (h2 97 (by omega)) (h2 98 (by omega)), MW_fr c0_MW (h2 101 (by omega))⟩ ⟨bgN_W (by omega), c0_W, zz0_W⟩
theorem ps_run4 {xs : Nat → Int32} {L : Nat} {fm : Value} {mi k pc pc' : Nat} {ls ls' st st' : List Value} {h h' : ip_H} (hm : mi ≠ ip_law) (e : ip_ps mi k pc ls st h = some (pc', ls', st', h')) (n : Nat) : ip_run xs L fm (n + k) mi pc ls st h = ip_run xs L fm n mi pc' ls' st' h' := ip_ps_run hm k pc ls st h (pc', ls', st', h') n e
theorem ct_m (xs : Nat → Int32) (L : Nat) (fm : Value) : ∃ (n : Nat) (σ : ip_G), jA σ ∧ ip_run xs L fm n 122 0 (ip_ent [.ref 92] (ip_mL 122)) [] (ip_h1 ++ [ip_d8]) = some (none, ip_mk σ) := by
  obtain ⟨n, o, h1, h2⟩ := ct_an (xs, L, fm)
  have h0 : ip_rS xs L fm n 122 327 [.ref 92] [.int (nI 2), .int (nI 2), .int (nI 4), .int (nI 4), .ref 92] sg1 = some (none, o.2) := by
    rw [← h2.1]
    exact h1
  have h5 := ip_sim xs L fm n 122 327 _ _ sg1 none o.2 h0
  have h6 := ps_run4 (xs := xs) (L := L) (fm := fm) (mi := 122) (by decide) ct_pm n
  refine ⟨n + 219, o.2, jA_0 h2.2.1 h2.2.2, ?_⟩
  rw [h6, h5]
theorem sl_mk (σ : ip_G) : ip_sl (ip_mk σ) ≤ 7302250 := by
  have e : (ip_mk σ).map (fun q => q.2.length) = ip_shp.map (fun q => q.2.length) := by
    apply List.ext_getElem?
    intro j
    rw [List.getElem?_map, List.getElem?_map, ip_mk_get]
    cases ip_shp[j]? with
    | none => rfl
    | some q => simp [ip_mkc]
  unfold ip_sl
  rw [e]
  decide +kernel
theorem nw_1 : ip_sA 199 (.new 7) 3 (ip_ent [.ref 1000000] 4) [] [] = some ([.ref 0], [ip_d7]) := by decide +kernel
theorem nw_2 : ip_sA 199 (.new 10) 3 [.ref 1000000, .ref 0, .retAddr 0, .retAddr 0] [] ip_h1 = some ([.ref 92], ip_h1 ++ [ip_d8]) := by decide +kernel
theorem nw_3 : ip_call 199 (.invokespecial 9) 3 [.ref 0, .ref 0] [ip_d7] = some (0, [.ref 0], [.ref 0]) := by decide +kernel
theorem nw_4 : ip_call 199 (.invokespecial 12) 3 [.ref 92, .ref 92] (ip_h1 ++ [ip_d8]) = some (122, [.ref 92], [.ref 92]) := by decide +kernel
theorem nw_5 : (ip_wl [ip_d7].length (ip_ent [.ref 1000000] 4) = true ∧ ip_wl [ip_d7].length [.ref 0] = true) ∧ (ip_wl (ip_h1 ++ [ip_d8]).length [.ref 1000000, .ref 0, .retAddr 0, .retAddr 0] = true ∧ ip_wl (ip_h1 ++ [ip_d8]).length [.ref 92] = true) := by decide +kernel
theorem ip_goal_holds : ip_goal := by
  intro xs L fm hL hfm
  obtain ⟨n2, σ0, hA, h2⟩ := ct_m xs L fm
  have h1 : ip_run xs L fm 1500 0 0 (ip_ent [.ref 0] (ip_mL 0)) [] [ip_d7] = some (none, ip_h1) := ct_w hfm
  have h3 : wp (xs, L, fm) 199 16 [.ref 1000000, .ref 0, .ref 92, .retAddr 0] [] σ0 (fun r _ => r = some (.int (nI 1))) := by
    rw [I_199_16, I_199_17]
    exact lw_loop (xs, L, fm) hfm hL _ (fun _ _ => rfl) 2048 0 σ0 (by show L ≤ 0 + 2048; omega) (by omega) hA
  obtain ⟨n3, ⟨r, σ3⟩, hr, hk⟩ := h3
  dsimp only at hk
  subst hk
  have h4 := ip_sim _ _ _ _ _ _ _ _ _ _ _ hr
  have d0 : decode (ip_mB 199) 0 = .ok (.new 7, 3) := by decide +kernel
  have d3 : decode (ip_mB 199) (0 + 3) = .ok (.dup, 1) := by decide +kernel
  have d4 : decode (ip_mB 199) 4 = .ok (.invokespecial 9, 3) := by decide +kernel
  have d7 : decode (ip_mB 199) (4 + 3) = .ok (.astore_n 1, 1) := by decide +kernel
  have d8 : decode (ip_mB 199) 8 = .ok (.new 10, 3) := by decide +kernel
  have d11 : decode (ip_mB 199) (8 + 3) = .ok (.dup, 1) := by decide +kernel
  have d12 : decode (ip_mB 199) 12 = .ok (.invokespecial 12, 3) := by decide +kernel
  have d15 : decode (ip_mB 199) (12 + 3) = .ok (.astore_n 2, 1) := by decide +kernel
  refine ⟨1500 + n2 + n3 + 8, ip_mk σ3, ?_, by rw [ip_mk_len103]; omega, sl_mk σ3⟩
  show ip_run xs L fm (1500 + n2 + n3 + 8) 199 0 (ip_ent [.ref 1000000] 4) [] [] = _
  rw [show 1500 + n2 + n3 + 8 = 1500 + n2 + n3 + 7 + 1 by omega, run_sA d0 rfl rfl nw_1]
  rw [show 1500 + n2 + n3 + 7 = 1500 + n2 + n3 + 6 + 1 by omega, run_s0 (pc' := 4) (ls' := ip_ent [.ref 1000000] 4) (st' := [.ref 0, .ref 0]) d3 rfl]
  rw [show 1500 + n2 + n3 + 6 = 1500 + n2 + n3 + 5 + 1 by omega, run_call d4 rfl nw_3 (run_le h1 (by omega)) nw_5.1]
  rw [show 1500 + n2 + n3 + 5 = 1500 + n2 + n3 + 4 + 1 by omega, run_s0 (pc' := 8) (ls' := [.ref 1000000, .ref 0, .retAddr 0, .retAddr 0]) (st' := []) d7 rfl]
  rw [show 1500 + n2 + n3 + 4 = 1500 + n2 + n3 + 3 + 1 by omega, run_sA d8 rfl rfl nw_2]
  rw [show 1500 + n2 + n3 + 3 = 1500 + n2 + n3 + 2 + 1 by omega, run_s0 (pc' := 12) (ls' := [.ref 1000000, .ref 0, .retAddr 0, .retAddr 0]) (st' := [.ref 92, .ref 92]) d11 rfl]
  rw [show 1500 + n2 + n3 + 2 = 1500 + n2 + n3 + 1 + 1 by omega, run_call d12 rfl nw_4 (run_le h2 (by omega)) nw_5.2]
  rw [run_s0 (pc' := 16) (ls' := [.ref 1000000, .ref 0, .ref 92, .retAddr 0]) (st' := []) d15 rfl]
  have e1 : (nI 1 : Int32) = 1 := by decide +kernel
  rw [e1] at h4
  exact run_le h4 (by omega)
