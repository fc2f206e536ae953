theorem ip_sub3 {a b c d : Nat} (h1 : b ≤ c) (h2 : c ≤ d) : a + (c - b) + (d - c) = a + (d - b) := by omega
set_option maxHeartbeats 4000000 in
theorem ip_snd (xs : Nat → Int32) (L : Nat) (fm : Value) (hfm : ip_fok2 fm) : ∀ n, ip_SND xs L fm n := by
  intro n
  induction n with
  | zero => intro mi pc ls st h r h' hr; simp [ip_run] at hr
  | succ n ih =>
    intro mi pc ls st h r h' hr p l e R s m args below meth c Q dC dI A ad tys ws H locs cells slots S C hRf hRl hkx hX hA hll hl hK hrel hP hD hS hcc hss hret
    have hmono := ip_run_mono xs L fm _ _ _ _ _ _ _ _ hr
    have hn : S.size = c.maxLocals := by rw [hl.1, hll, C.2.2.1]
    unfold ip_run at hr
    split at hr
    · cases hr
    · next ins len hd =>
      split at hr
      · next o hs =>
        have h2 := ip_s0_len hs
        exact ip_s0_W C.1 C.2.1 hd hs hl (fun S' hl' => ih _ _ _ _ _ _ _ hr p l e R s m args below meth c Q dC dI A ad tys ws H locs cells slots S' C hRf hRl hkx hX hA (h2.trans hll) hl' hK hrel hP hD hS hcc hss hret)
      · split at hr
        · next st' h1 hs =>
          obtain ⟨e1, e2⟩ := ip_sH_len hs
          dsimp only at e1 e2
          refine ip_sH_W C hX hd hs hn (Nat.le_trans (Nat.le_add_right _ _) hcc) (Nat.le_trans (Nat.le_add_right _ _) hss) hK hrel hP hD hS (fun ws' H' locs' hrel' hP' hD' hS' => ?_)
          have e3 : h'.length - h1.length = h'.length - h.length := by rw [e1]
          have e4 : ip_sl h' - ip_sl h1 = ip_sl h' - ip_sl h := by rw [e2]
          refine ih _ _ _ _ _ _ _ hr p l e R s m args below meth c Q dC dI A ad tys ws' H' locs' cells slots S C hRf hRl hkx hX hA hll hl hK hrel' hP' hD' hS' (by rw [e3]; exact hcc) (by rw [e4]; exact hss) ?_
          intro ad' tys' ws2 H2 locs2 S' pc' ins2 len2 st2 hag
          rw [e3, e4]
          exact hret ad' tys' ws2 H2 locs2 S' pc' ins2 len2 st2 ⟨fun k hk => hag.1 k (by rw [e1]; exact hk), fun z => hag.2 (by rw [e1]; exact z)⟩
        · split at hr
          · next st' hs =>
            exact ip_sS_W C hkx hd hs hS (ih _ _ _ _ _ _ _ hr p l e R s m args below meth c Q dC dI A ad tys ws H locs cells slots S C hRf hRl hkx hX hA hll hl hK hrel hP hD hS hcc hss hret)
          · split at hr
            · next st' h1 hs =>
              obtain ⟨q, e1, hlim⟩ := ip_sA_len hs
              dsimp only at e1
              have hm2 := ip_run_mono xs L fm _ _ _ _ _ _ _ _ hr
              have el : h1.length = h.length + 1 := by rw [e1, List.length_append]; rfl
              have es : ip_sl h1 = ip_sl h + q.2.length := by rw [e1, ip_sl_app]
              refine ip_sA_W C hkx.2.2.2.2.1 hd hs (by dsimp only; omega) (by dsimp only; omega) hA hl hK hrel hP hD hS (fun a tys' ws' H' hK' hrel' hP' hD' hS' hl' => ?_)
              have hagx : ip_agr ad (ip_ext ad h.length a) h h1 := by rw [e1]; exact ip_agr_ext hlim
              refine ih _ _ _ _ _ _ _ hr p l e R s m args below meth c Q dC dI A (ip_ext ad h.length a) tys' ws' H' locs _ _ S C hRf hRl (hkx.agr hfm (fun k hk => hagx.1 k (Or.inr hk))) (fun z => by rw [hagx.1 1000000 (Or.inr (Nat.le_refl _))]; exact hX z) hA hll hl' hK' hrel' hP' hD' hS' (by dsimp only; omega) (by dsimp only; omega) ?_
              intro ad' tys2 ws2 H2 locs2 S' pc' ins2 len2 st2 hag
              dsimp only
              rw [show cells + (h1.length - h.length) + (h'.length - h1.length) = cells + (h'.length - h.length) by omega, show slots + (ip_sl h1 - ip_sl h) + (ip_sl h' - ip_sl h1) = slots + (ip_sl h' - ip_sl h) by omega]
              exact hret ad' tys2 ws2 H2 locs2 S' pc' ins2 len2 st2 (hagx.tr hag (by omega) hm2.1)
            · split at hr
              · next r2 hs =>
                cases hr
                have hz := hret ad tys ws H locs S pc ins len st ip_agr.rf hK hrel hP hD hS hd hs
                rw [Nat.sub_self, Nat.sub_self, Nat.add_zero, Nat.add_zero] at hz
                exact hz
              · split at hr
                · next cal as rest hs =>
                  split at hr
                  · next r1 h1 hcr =>
                    split at hr
                    · next hwf =>
                      obtain ⟨hlen3, hrest, hlev, hent, hst, hkind⟩ := ip_call_inv hs
                      subst hlen3
                      subst hst
                      have hm1 := ip_run_mono xs L fm _ _ _ _ _ _ _ _ hcr
                      have hm2 := ip_run_mono xs L fm _ _ _ _ _ _ _ _ hr
                      have hcs := ip_catsum ad rest
                      -- the goal behind the call
                      have after : ∀ (u : ip_S) (H1 : Heap) (locs1 : List Loc), ip_agr ad u.1 h h1 → ip_rel u.1 u.2.1 h1 u.2.2 → va_P (dC, dI) vwCl u.2.2 H1 → va_K (dC, dI) vwCl u.2.1 s → va_D (va_A ws H.size) u.2.2 → va_S A s.heap H1 locs1 → W p l e R s m args below meth c H1 locs1 (cells + (h1.length - h.length)) (slots + (ip_sl h1 - ip_sl h)) Q (F0 m (pc + 3) S ((r1.map (ip_gv u.1)).toList ++ rest.map (ip_gv ad))) := by
                        intro u H1 locs1 hag1 hrel1 hP1 hK1 hD1 hS1
                        have hD2 : va_D A u.2.2 := hD1.weaken (fun k q hq hz => by
                          rcases hz with ⟨k2, e2, h2⟩ | h2
                          · exact hD.2 k2 (q.1, e2) h2
                          · exact hA _ (Nat.le_trans hS.1 h2))
                        have est : (r1.map (ip_gv u.1)).toList ++ rest.map (ip_gv ad) = (r1.toList ++ rest).map (ip_gv u.1) := by
                          rw [List.map_append, ip_map_agr hag1 (hwf.imp id (fun z => z.2))]
                          cases r1 <;> rfl
                        rw [est]
                        refine ih _ _ _ _ _ _ _ hr p l e R s m args below meth c Q dC dI A u.1 u.2.1 u.2.2 H1 locs1 _ _ S C hRf hRl (hkx.agr hfm (fun k hk => hag1.1 k (Or.inr hk))) (fun z => by rw [hag1.1 1000000 (Or.inr (Nat.le_refl _))]; exact hX z) hA hll (ip_lr_agr hag1 (hwf.imp id (fun z => z.1)) hl) hK1 hrel1 hP1 hD2 hS1 (by omega) (by omega) ?_
                        intro ad' tys2 ws2 H2 locs2 S' pc' ins2 len2 st2 hag
                        rw [ip_sub3 hm1.1 hm2.1, ip_sub3 hm1.2 hm2.2]
                        exact hret ad' tys2 ws2 H2 locs2 S' pc' ins2 len2 st2 (hag1.tr hag hm1.1 hm2.1)
                      have hAA : ∀ q, va_A ws H.size q → A q := fun q hz => by
                        rcases hz with ⟨k2, e2, h2⟩ | h2
                        · exact hD.2 k2 _ h2
                        · exact hA _ (Nat.le_trans hS.1 h2)
                      have hpre : ∀ U : State, U.heap = H → s.WarmedH U.vm → ip_Pc fm ad dC dI tys ws H.size as (as.map (ip_gv ad)).toArray U := fun U hU hW => ⟨rfl, by rw [hU], by rw [hU]; exact hP, va_K.moved hW.alike hK, hD.weaken (fun _ _ _ _ => trivial), hkx.next hS hAA hW hU⟩
                      obtain ⟨hx, hb, hml, hown, hts, hfr, hlo, hin⟩ := C
                      have fix : CallFix p m c (ip_mB mi) (ip_mL mi) s args ip_W (ip_on (ip_mO mi)) := ⟨hx, hb, hml, hown, hts⟩
                      have hroom : (2 * (F0 m pc S ((as.reverse ++ rest).map (ip_gv ad))).monitorRoom + ((rest.map (ip_gv ad)).map fun v => v.category).sum) ≤ 8 := lv_room (by omega)
                      have hfit : cells + (h1.length - h.length) ≤ R.cells ∧ slots + (ip_sl h1 - ip_sl h) ≤ R.slots := ⟨by omega, by omega⟩
                      have hsz : S.size = ip_mL mi := hn.trans hml
                      have hstk : (as.reverse ++ rest).map (ip_gv ad) = (as.map (ip_gv ad)).reverse ++ rest.map (ip_gv ad) := by rw [List.map_append, List.map_reverse]
                      rcases hkind with ⟨i, nn, rfl, hcal, hal⟩ | ⟨i, nn, kind, q, as0, hik, hcal, rfl, hal, hrec⟩
                      · obtain ⟨c199, cpar, cne, cini, ck⟩ := ip_cal_spec hcal
                        have hmL := (ip_all_m cal c199).2.2.2
                        have hRR : (ip_rm cal (h1.length - h.length) (ip_sl h1 - ip_sl h)).frames + 1 ≤ R.frames ∧ 8 + (ip_mL cal + 11) + (ip_rm cal (h1.length - h.length) (ip_sl h1 - ip_sl h)).locals ≤ R.locals := by
                          show ip_mV cal + 1 ≤ R.frames ∧ 8 + (ip_mL cal + 11) + 36 * ip_mV cal ≤ R.locals
                          omega
                        have hM := ip_met_of ih c199 hent hcr hrel l dC dI H.size
                        rcases ck with ⟨e0, -⟩ | ⟨-, k1, k2⟩ | ⟨e0, -⟩ | ⟨e0, -⟩
                        · cases e0
                        · exact ip_callW (va_runS fix hM (va_cwS nn hts (ip_gI (fun w hw => by
                            rcases List.mem_append.mp hw with hw | hw
                            · simp only [List.mem_cons, List.mem_nil_iff, or_false] at hw
                              rcases hw with rfl | rfl | rfl
                              · exact k1
                              · exact k2
                              · exact cini
                            · exact ip_ws_in c199 w hw)) rfl rfl rfl ⟨cne.1, cne.2, cpar⟩ hRR) ⟨ip_blind, hpre⟩ rfl (by rw [List.length_map]; exact hal) hsz hstk hroom hd hfit) hS (fun q _ hq => hAA q hq) hAA after
                        · cases e0
                        · cases e0
                      · obtain ⟨c199, cpar, cne, cini, ck⟩ := ip_cal_spec hcal
                        have hmL := (ip_all_m cal c199).2.2.2
                        have hRR : (ip_rm cal (h1.length - h.length) (ip_sl h1 - ip_sl h)).frames + 1 ≤ R.frames ∧ 8 + (ip_mL cal + 11) + (ip_rm cal (h1.length - h.length) (ip_sl h1 - ip_sl h)).locals ≤ R.locals := by
                          show ip_mV cal + 1 ≤ R.frames ∧ 8 + (ip_mL cal + 11) + 36 * ip_mV cal ≤ R.locals
                          omega
                        have hM := ip_met_of ih c199 hent hcr hrel l dC dI H.size
                        have hstk2 : ((.ref q :: as0).reverse ++ rest).map (ip_gv ad) = (as0.map (ip_gv ad)).reverse ++ .ref (ad q) :: rest.map (ip_gv ad) := by
                          rw [hstk, List.map_cons, List.reverse_cons, List.append_assoc]
                          rfl
                        have hal2 : (as0.map (ip_gv ad)).length = nn := by rw [List.length_map]; exact hal
                        have hrcv : ∃ cellB : Cell, H[ad q]? = some cellB ∧ cellB.vm.isStatics = false ∧ s.vm.findClass (ip_mY cal).cls = some cellB.cls := by
                          rcases hrec with ⟨tag, vs, hcell, ht, hcl⟩ | ⟨q1, q2, hcl⟩
                          · cases hz : vwCl[tag]? with
                            | none => rw [hz] at hcl; cases hcl
                            | some cq =>
                              rw [hz] at hcl
                              rw [← Option.some.inj hcl]
                              exact va_recv hK hP hz (ip_obj hrel hcell ht)
                          · obtain ⟨j, rfl⟩ : ∃ j : Nat, q = 2000000 + j := ⟨q - 2000000, (Nat.add_sub_cancel' q1).symm⟩
                            rw [hcl]
                            exact vk_recv (i := j) hkx.1 (Nat.lt_of_add_lt_add_left (n := 2000000) q2) hS
                        rcases hik with ⟨rfl, rfl⟩ | ⟨rfl, hk23⟩
                        · rcases ck with ⟨-, k1, k2, k3⟩ | ⟨e0, -⟩ | ⟨e0, -⟩ | ⟨e0, -⟩
                          · exact ip_callW (va_runV fix hM (cwV nn hts (ip_gI (fun w hw => by
                              rcases List.mem_append.mp hw with hw | hw
                              · simp only [List.mem_cons, List.mem_nil_iff, or_false] at hw
                                rcases hw with rfl | rfl | rfl | rfl
                                · exact k1
                                · exact k2
                                · exact k3
                                · exact cini
                              · exact ip_ws_in c199 w hw)) rfl rfl rfl ⟨rfl, cne.1, cne.2, cpar⟩ hRR) ⟨ip_blind, hrcv, hpre⟩ rfl hal2 hsz hstk2 hroom hd hfit) hS (fun q _ hq => hAA q hq) hAA after
                          · cases e0
                          · cases e0
                          · cases e0
                        · rcases ck with ⟨e0, -⟩ | ⟨e0, -⟩ | ⟨-, k1, k2, k3, k4⟩ | ⟨e0, k1, k2, k3, k4⟩
                          · omega
                          · omega
                          · have cw := cwI (R := R) (s := s) (args := args) (own := ip_on (ip_mO mi)) (index := i) (y := ip_mY cal) (bytes := ip_mB cal) (maxL := ip_mL cal) (rm := ip_rm cal (h1.length - h.length) (ip_sl h1 - ip_sl h)) nn hts (ip_gI (ip_ws_in c199)) (by rw [ip_ws, ip_cw, k4]) rfl rfl (hts _ cini) (hts _ k1) (hts _ k2) k3 ⟨cne.1, cne.2, cpar⟩ hRR
                            exact ip_callW (va_runI fix hM cw ⟨ip_blind, hpre⟩ rfl hal2 hsz hstk2 hroom hd hfit) hS (fun q _ hq => hAA q hq) hAA after
                          · have hnest := hkx.2.2.2.2.2 _ k1
                            have cw := va_cnB (R := R) (s := s) (args := args) (own := ip_on (ip_mO mi)) (index := i) (y := ip_mY cal) (bytes := ip_mB cal) (maxL := ip_mL cal) (ret := none) (rm := ip_rm cal (h1.length - h.length) (ip_sl h1 - ip_sl h)) nn hts (ip_gI (ip_ws_in c199)) (by rw [ip_ws, ip_cw, k4]) rfl rfl hnest (hts _ cini) ⟨cne.1, cne.2, cpar⟩ hRR
                            exact ip_callW (va_runIN fix hM ⟨cw, k3, hts _ k2⟩ ⟨ip_blind, hpre⟩ rfl hal2 hsz hstk2 hroom hd hfit) hS (fun q _ hq => hAA q hq) hAA after
                    · cases hr
                  · cases hr
                · cases hr
