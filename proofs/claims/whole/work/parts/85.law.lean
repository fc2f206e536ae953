/-! THE LAW'S LOOP -/
theorem lw_cond {L i : Nat} (hL : L ≤ 2048) (hi : i ≤ 4096) : (nI L - nI 4 < nI i) ↔ L < i + 4 := by
  by_cases h : 4 ≤ L
  · obtain ⟨m, rfl⟩ := Nat.exists_eq_add_of_le' h
    have e : nI (m + 4) - nI 4 = nI m := by rw [← nI_add, Int32.add_sub_cancel]
    rw [e, nI_ltI (by omega) (by omega)]
    omega
  · have hn : (nI L - nI 4).toInt < 0 := (by decide +kernel : ∀ L, L < 4 → (nI L - nI 4).toInt < 0) L (by omega)
    constructor
    · intro _
      omega
    · intro _
      rw [Int32.lt_iff_toInt_lt, nI_toInt (by omega)]
      omega
theorem lw_31 (x : Int32) : ∃ v, v < 32 ∧ x &&& nI 31 = nI v := by
  have e : x = nI x.toBitVec.toNat := by
    apply Int32.toBitVec_inj.mp
    show x.toBitVec = BitVec.ofNat 32 x.toBitVec.toNat
    simp
  refine ⟨x.toBitVec.toNat &&& 31, Nat.and_lt_two_pow (n := 5) _ (by decide), ?_⟩
  rw [← nx_and, ← e]
theorem lw_0 (E : ip_E) (hE : ip_fok2 E.2.2) (hL : E.2.1 ≤ 2048) {i : Nat} (hi : i + 4 ≤ E.2.1) {σ : ip_G} (hA : jA σ) (κ : Option Value → ip_G → Prop) (ih : ∀ σ2, jA σ2 → wp E 199 18 [.ref 1000000, .ref 0, .ref 92, .int (nI (i + 4))] [] σ2 κ) : wp E 199 168 [.ref 1000000, .ref 0, .ref 92, .int (nI i)] [] σ κ := by
  simp (disch := first | assumption | omega | exact tg_0 | exact tg_92) only [I_199_168, I_199_169, I_199_170, I_199_171, I_199_172, I_199_173, I_199_174, I_199_177, I_199_178, I_199_179, I_199_180, I_199_181, I_199_182, I_199_183, I_199_186, I_199_189, I_199_190, I_199_958, I_199_961, nI_add]
  refine j_write E hE hA (E.1 (i + 1)) _ (fun v σ1 hm => ?_)
  simp (disch := first | assumption | omega | exact tg_0 | exact tg_92) only [I_199_168, I_199_169, I_199_170, I_199_171, I_199_172, I_199_173, I_199_174, I_199_177, I_199_178, I_199_179, I_199_180, I_199_181, I_199_182, I_199_183, I_199_186, I_199_189, I_199_190, I_199_958, I_199_961, nI_add, Option.toList_some, List.cons_append, List.nil_append]
  refine hm _ (fun σ2 h2 => ?_)
  simp (disch := first | assumption | omega | exact tg_0 | exact tg_92) only [I_199_168, I_199_169, I_199_170, I_199_171, I_199_172, I_199_173, I_199_174, I_199_177, I_199_178, I_199_179, I_199_180, I_199_181, I_199_182, I_199_183, I_199_186, I_199_189, I_199_190, I_199_958, I_199_961, nI_add, Option.toList_some, List.cons_append, List.nil_append, ↓reduceIte]
  exact ih σ2 h2
theorem lw_1 (E : ip_E) (hE : ip_fok2 E.2.2) (hL : E.2.1 ≤ 2048) {i : Nat} (hi : i + 4 ≤ E.2.1) {σ : ip_G} (hA : jA σ) (κ : Option Value → ip_G → Prop) (ih : ∀ σ2, jA σ2 → wp E 199 18 [.ref 1000000, .ref 0, .ref 92, .int (nI (i + 4))] [] σ2 κ) : wp E 199 191 [.ref 1000000, .ref 0, .ref 92, .int (nI i)] [] σ κ := by
  simp (disch := first | assumption | omega | exact tg_0 | exact tg_92) only [I_199_191, I_199_192, I_199_195, I_199_196, I_199_199, I_199_202, I_199_203, I_199_958, I_199_961, nI_add]
  refine j_erase E hE hA  _ (fun v σ1 hm => ?_)
  simp (disch := first | assumption | omega | exact tg_0 | exact tg_92) only [I_199_191, I_199_192, I_199_195, I_199_196, I_199_199, I_199_202, I_199_203, I_199_958, I_199_961, nI_add, Option.toList_some, List.cons_append, List.nil_append]
  refine hm _ (fun σ2 h2 => ?_)
  simp (disch := first | assumption | omega | exact tg_0 | exact tg_92) only [I_199_191, I_199_192, I_199_195, I_199_196, I_199_199, I_199_202, I_199_203, I_199_958, I_199_961, nI_add, Option.toList_some, List.cons_append, List.nil_append, ↓reduceIte]
  exact ih σ2 h2
theorem lw_2 (E : ip_E) (hE : ip_fok2 E.2.2) (hL : E.2.1 ≤ 2048) {i : Nat} (hi : i + 4 ≤ E.2.1) {σ : ip_G} (hA : jA σ) (κ : Option Value → ip_G → Prop) (ih : ∀ σ2, jA σ2 → wp E 199 18 [.ref 1000000, .ref 0, .ref 92, .int (nI (i + 4))] [] σ2 κ) : wp E 199 204 [.ref 1000000, .ref 0, .ref 92, .int (nI i)] [] σ κ := by
  simp (disch := first | assumption | omega | exact tg_0 | exact tg_92) only [I_199_204, I_199_205, I_199_208, I_199_209, I_199_212, I_199_215, I_199_216, I_199_958, I_199_961, nI_add]
  refine j_fault E hE hA  _ (fun v σ1 hm => ?_)
  simp (disch := first | assumption | omega | exact tg_0 | exact tg_92) only [I_199_204, I_199_205, I_199_208, I_199_209, I_199_212, I_199_215, I_199_216, I_199_958, I_199_961, nI_add, Option.toList_some, List.cons_append, List.nil_append]
  refine hm _ (fun σ2 h2 => ?_)
  simp (disch := first | assumption | omega | exact tg_0 | exact tg_92) only [I_199_204, I_199_205, I_199_208, I_199_209, I_199_212, I_199_215, I_199_216, I_199_958, I_199_961, nI_add, Option.toList_some, List.cons_append, List.nil_append, ↓reduceIte]
  exact ih σ2 h2
theorem lw_3 (E : ip_E) (hE : ip_fok2 E.2.2) (hL : E.2.1 ≤ 2048) {i : Nat} (hi : i + 4 ≤ E.2.1) {σ : ip_G} (hA : jA σ) (κ : Option Value → ip_G → Prop) (ih : ∀ σ2, jA σ2 → wp E 199 18 [.ref 1000000, .ref 0, .ref 92, .int (nI (i + 4))] [] σ2 κ) : wp E 199 217 [.ref 1000000, .ref 0, .ref 92, .int (nI i)] [] σ κ := by
  simp (disch := first | assumption | omega | exact tg_0 | exact tg_92) only [I_199_217, I_199_218, I_199_221, I_199_222, I_199_225, I_199_228, I_199_229, I_199_958, I_199_961, nI_add]
  refine j_draft E hE hA  _ (fun v σ1 hm => ?_)
  simp (disch := first | assumption | omega | exact tg_0 | exact tg_92) only [I_199_217, I_199_218, I_199_221, I_199_222, I_199_225, I_199_228, I_199_229, I_199_958, I_199_961, nI_add, Option.toList_some, List.cons_append, List.nil_append]
  refine hm _ (fun σ2 h2 => ?_)
  simp (disch := first | assumption | omega | exact tg_0 | exact tg_92) only [I_199_217, I_199_218, I_199_221, I_199_222, I_199_225, I_199_228, I_199_229, I_199_958, I_199_961, nI_add, Option.toList_some, List.cons_append, List.nil_append, ↓reduceIte]
  exact ih σ2 h2
theorem lw_4 (E : ip_E) (hE : ip_fok2 E.2.2) (hL : E.2.1 ≤ 2048) {i : Nat} (hi : i + 4 ≤ E.2.1) {σ : ip_G} (hA : jA σ) (κ : Option Value → ip_G → Prop) (ih : ∀ σ2, jA σ2 → wp E 199 18 [.ref 1000000, .ref 0, .ref 92, .int (nI (i + 4))] [] σ2 κ) : wp E 199 230 [.ref 1000000, .ref 0, .ref 92, .int (nI i)] [] σ κ := by
  simp (disch := first | assumption | omega | exact tg_0 | exact tg_92) only [I_199_230, I_199_231, I_199_232, I_199_233, I_199_234, I_199_235, I_199_236, I_199_237, I_199_238, I_199_239, I_199_240, I_199_241, I_199_244, I_199_245, I_199_246, I_199_247, I_199_248, I_199_249, I_199_250, I_199_251, I_199_252, I_199_253, I_199_254, I_199_255, I_199_258, I_199_261, I_199_262, I_199_958, I_199_961, nI_add]
  refine j_end E hE hA (E.1 (i + 1)) (E.1 (i + 2)) _ (fun v σ1 hm => ?_)
  simp (disch := first | assumption | omega | exact tg_0 | exact tg_92) only [I_199_230, I_199_231, I_199_232, I_199_233, I_199_234, I_199_235, I_199_236, I_199_237, I_199_238, I_199_239, I_199_240, I_199_241, I_199_244, I_199_245, I_199_246, I_199_247, I_199_248, I_199_249, I_199_250, I_199_251, I_199_252, I_199_253, I_199_254, I_199_255, I_199_258, I_199_261, I_199_262, I_199_958, I_199_961, nI_add, Option.toList_some, List.cons_append, List.nil_append]
  refine hm _ (fun σ2 h2 => ?_)
  simp (disch := first | assumption | omega | exact tg_0 | exact tg_92) only [I_199_230, I_199_231, I_199_232, I_199_233, I_199_234, I_199_235, I_199_236, I_199_237, I_199_238, I_199_239, I_199_240, I_199_241, I_199_244, I_199_245, I_199_246, I_199_247, I_199_248, I_199_249, I_199_250, I_199_251, I_199_252, I_199_253, I_199_254, I_199_255, I_199_258, I_199_261, I_199_262, I_199_958, I_199_961, nI_add, Option.toList_some, List.cons_append, List.nil_append, ↓reduceIte]
  exact ih σ2 h2
theorem lw_5 (E : ip_E) (hE : ip_fok2 E.2.2) (hL : E.2.1 ≤ 2048) {i : Nat} (hi : i + 4 ≤ E.2.1) {σ : ip_G} (hA : jA σ) (κ : Option Value → ip_G → Prop) (ih : ∀ σ2, jA σ2 → wp E 199 18 [.ref 1000000, .ref 0, .ref 92, .int (nI (i + 4))] [] σ2 κ) : wp E 199 263 [.ref 1000000, .ref 0, .ref 92, .int (nI i)] [] σ κ := by
  simp (disch := first | assumption | omega | exact tg_0 | exact tg_92) only [I_199_263, I_199_264, I_199_265, I_199_266, I_199_267, I_199_268, I_199_269, I_199_270, I_199_271, I_199_272, I_199_273, I_199_274, I_199_277, I_199_278, I_199_279, I_199_280, I_199_281, I_199_282, I_199_283, I_199_284, I_199_285, I_199_286, I_199_287, I_199_288, I_199_291, I_199_294, I_199_295, I_199_958, I_199_961, nI_add]
  refine j_pick E hE hA (E.1 (i + 1)) (E.1 (i + 2)) _ (fun v σ1 hm => ?_)
  simp (disch := first | assumption | omega | exact tg_0 | exact tg_92) only [I_199_263, I_199_264, I_199_265, I_199_266, I_199_267, I_199_268, I_199_269, I_199_270, I_199_271, I_199_272, I_199_273, I_199_274, I_199_277, I_199_278, I_199_279, I_199_280, I_199_281, I_199_282, I_199_283, I_199_284, I_199_285, I_199_286, I_199_287, I_199_288, I_199_291, I_199_294, I_199_295, I_199_958, I_199_961, nI_add, Option.toList_some, List.cons_append, List.nil_append]
  refine hm _ (fun σ2 h2 => ?_)
  simp (disch := first | assumption | omega | exact tg_0 | exact tg_92) only [I_199_263, I_199_264, I_199_265, I_199_266, I_199_267, I_199_268, I_199_269, I_199_270, I_199_271, I_199_272, I_199_273, I_199_274, I_199_277, I_199_278, I_199_279, I_199_280, I_199_281, I_199_282, I_199_283, I_199_284, I_199_285, I_199_286, I_199_287, I_199_288, I_199_291, I_199_294, I_199_295, I_199_958, I_199_961, nI_add, Option.toList_some, List.cons_append, List.nil_append, ↓reduceIte]
  exact ih σ2 h2
theorem lw_6 (E : ip_E) (hE : ip_fok2 E.2.2) (hL : E.2.1 ≤ 2048) {i : Nat} (hi : i + 4 ≤ E.2.1) {σ : ip_G} (hA : jA σ) (κ : Option Value → ip_G → Prop) (ih : ∀ σ2, jA σ2 → wp E 199 18 [.ref 1000000, .ref 0, .ref 92, .int (nI (i + 4))] [] σ2 κ) : wp E 199 296 [.ref 1000000, .ref 0, .ref 92, .int (nI i)] [] σ κ := by
  simp (disch := first | assumption | omega | exact tg_0 | exact tg_92) only [I_199_296, I_199_297, I_199_298, I_199_299, I_199_300, I_199_301, I_199_302, I_199_305, I_199_306, I_199_307, I_199_308, I_199_309, I_199_310, I_199_311, I_199_314, I_199_317, I_199_318, I_199_958, I_199_961, nI_add]
  refine j_treadle E hE hA (E.1 (i + 1)) _ (fun v σ1 hm => ?_)
  simp (disch := first | assumption | omega | exact tg_0 | exact tg_92) only [I_199_296, I_199_297, I_199_298, I_199_299, I_199_300, I_199_301, I_199_302, I_199_305, I_199_306, I_199_307, I_199_308, I_199_309, I_199_310, I_199_311, I_199_314, I_199_317, I_199_318, I_199_958, I_199_961, nI_add, Option.toList_some, List.cons_append, List.nil_append]
  refine hm _ (fun σ2 h2 => ?_)
  simp (disch := first | assumption | omega | exact tg_0 | exact tg_92) only [I_199_296, I_199_297, I_199_298, I_199_299, I_199_300, I_199_301, I_199_302, I_199_305, I_199_306, I_199_307, I_199_308, I_199_309, I_199_310, I_199_311, I_199_314, I_199_317, I_199_318, I_199_958, I_199_961, nI_add, Option.toList_some, List.cons_append, List.nil_append, ↓reduceIte]
  exact ih σ2 h2
theorem lw_7 (E : ip_E) (hE : ip_fok2 E.2.2) (hL : E.2.1 ≤ 2048) {i : Nat} (hi : i + 4 ≤ E.2.1) {σ : ip_G} (hA : jA σ) (κ : Option Value → ip_G → Prop) (ih : ∀ σ2, jA σ2 → wp E 199 18 [.ref 1000000, .ref 0, .ref 92, .int (nI (i + 4))] [] σ2 κ) : wp E 199 319 [.ref 1000000, .ref 0, .ref 92, .int (nI i)] [] σ κ := by
  simp (disch := first | assumption | omega | exact tg_0 | exact tg_92) only [I_199_319, I_199_320, I_199_321, I_199_322, I_199_323, I_199_324, I_199_325, I_199_326, I_199_327, I_199_328, I_199_329, I_199_330, I_199_331, I_199_332, I_199_333, I_199_334, I_199_335, I_199_338, I_199_339, I_199_340, I_199_341, I_199_342, I_199_343, I_199_344, I_199_345, I_199_346, I_199_347, I_199_348, I_199_349, I_199_350, I_199_351, I_199_352, I_199_353, I_199_354, I_199_357, I_199_360, I_199_361, I_199_958, I_199_961, nI_add]
  refine j_cross E hE hA (E.1 (i + 1)) (E.1 (i + 2)) (E.1 (i + 3)) _ (fun v σ1 hm => ?_)
  simp (disch := first | assumption | omega | exact tg_0 | exact tg_92) only [I_199_319, I_199_320, I_199_321, I_199_322, I_199_323, I_199_324, I_199_325, I_199_326, I_199_327, I_199_328, I_199_329, I_199_330, I_199_331, I_199_332, I_199_333, I_199_334, I_199_335, I_199_338, I_199_339, I_199_340, I_199_341, I_199_342, I_199_343, I_199_344, I_199_345, I_199_346, I_199_347, I_199_348, I_199_349, I_199_350, I_199_351, I_199_352, I_199_353, I_199_354, I_199_357, I_199_360, I_199_361, I_199_958, I_199_961, nI_add, Option.toList_some, List.cons_append, List.nil_append]
  refine hm _ (fun σ2 h2 => ?_)
  simp (disch := first | assumption | omega | exact tg_0 | exact tg_92) only [I_199_319, I_199_320, I_199_321, I_199_322, I_199_323, I_199_324, I_199_325, I_199_326, I_199_327, I_199_328, I_199_329, I_199_330, I_199_331, I_199_332, I_199_333, I_199_334, I_199_335, I_199_338, I_199_339, I_199_340, I_199_341, I_199_342, I_199_343, I_199_344, I_199_345, I_199_346, I_199_347, I_199_348, I_199_349, I_199_350, I_199_351, I_199_352, I_199_353, I_199_354, I_199_357, I_199_360, I_199_361, I_199_958, I_199_961, nI_add, Option.toList_some, List.cons_append, List.nil_append, ↓reduceIte]
  exact ih σ2 h2
theorem lw_8 (E : ip_E) (hE : ip_fok2 E.2.2) (hL : E.2.1 ≤ 2048) {i : Nat} (hi : i + 4 ≤ E.2.1) {σ : ip_G} (hA : jA σ) (κ : Option Value → ip_G → Prop) (ih : ∀ σ2, jA σ2 → wp E 199 18 [.ref 1000000, .ref 0, .ref 92, .int (nI (i + 4))] [] σ2 κ) : wp E 199 362 [.ref 1000000, .ref 0, .ref 92, .int (nI i)] [] σ κ := by
  simp (disch := first | assumption | omega | exact tg_0 | exact tg_92) only [I_199_362, I_199_363, I_199_364, I_199_365, I_199_366, I_199_367, I_199_368, I_199_369, I_199_370, I_199_371, I_199_372, I_199_373, I_199_376, I_199_377, I_199_378, I_199_379, I_199_380, I_199_381, I_199_382, I_199_383, I_199_384, I_199_385, I_199_386, I_199_387, I_199_390, I_199_393, I_199_394, I_199_958, I_199_961, nI_add]
  refine j_draw E hE hA (E.1 (i + 1)) (E.1 (i + 2)) _ (fun v σ1 hm => ?_)
  simp (disch := first | assumption | omega | exact tg_0 | exact tg_92) only [I_199_362, I_199_363, I_199_364, I_199_365, I_199_366, I_199_367, I_199_368, I_199_369, I_199_370, I_199_371, I_199_372, I_199_373, I_199_376, I_199_377, I_199_378, I_199_379, I_199_380, I_199_381, I_199_382, I_199_383, I_199_384, I_199_385, I_199_386, I_199_387, I_199_390, I_199_393, I_199_394, I_199_958, I_199_961, nI_add, Option.toList_some, List.cons_append, List.nil_append]
  refine hm _ (fun σ2 h2 => ?_)
  simp (disch := first | assumption | omega | exact tg_0 | exact tg_92) only [I_199_362, I_199_363, I_199_364, I_199_365, I_199_366, I_199_367, I_199_368, I_199_369, I_199_370, I_199_371, I_199_372, I_199_373, I_199_376, I_199_377, I_199_378, I_199_379, I_199_380, I_199_381, I_199_382, I_199_383, I_199_384, I_199_385, I_199_386, I_199_387, I_199_390, I_199_393, I_199_394, I_199_958, I_199_961, nI_add, Option.toList_some, List.cons_append, List.nil_append, ↓reduceIte]
  exact ih σ2 h2
theorem lw_9 (E : ip_E) (hE : ip_fok2 E.2.2) (hL : E.2.1 ≤ 2048) {i : Nat} (hi : i + 4 ≤ E.2.1) {σ : ip_G} (hA : jA σ) (κ : Option Value → ip_G → Prop) (ih : ∀ σ2, jA σ2 → wp E 199 18 [.ref 1000000, .ref 0, .ref 92, .int (nI (i + 4))] [] σ2 κ) : wp E 199 395 [.ref 1000000, .ref 0, .ref 92, .int (nI i)] [] σ κ := by
  simp (disch := first | assumption | omega | exact tg_0 | exact tg_92) only [I_199_395, I_199_396, I_199_397, I_199_398, I_199_399, I_199_400, I_199_401, I_199_402, I_199_403, I_199_404, I_199_405, I_199_406, I_199_409, I_199_410, I_199_411, I_199_412, I_199_413, I_199_414, I_199_415, I_199_416, I_199_417, I_199_418, I_199_419, I_199_420, I_199_423, I_199_426, I_199_427, I_199_958, I_199_961, nI_add]
  refine j_tie E hE hA (E.1 (i + 1)) (E.1 (i + 2)) _ (fun v σ1 hm => ?_)
  simp (disch := first | assumption | omega | exact tg_0 | exact tg_92) only [I_199_395, I_199_396, I_199_397, I_199_398, I_199_399, I_199_400, I_199_401, I_199_402, I_199_403, I_199_404, I_199_405, I_199_406, I_199_409, I_199_410, I_199_411, I_199_412, I_199_413, I_199_414, I_199_415, I_199_416, I_199_417, I_199_418, I_199_419, I_199_420, I_199_423, I_199_426, I_199_427, I_199_958, I_199_961, nI_add, Option.toList_some, List.cons_append, List.nil_append]
  refine hm _ (fun σ2 h2 => ?_)
  simp (disch := first | assumption | omega | exact tg_0 | exact tg_92) only [I_199_395, I_199_396, I_199_397, I_199_398, I_199_399, I_199_400, I_199_401, I_199_402, I_199_403, I_199_404, I_199_405, I_199_406, I_199_409, I_199_410, I_199_411, I_199_412, I_199_413, I_199_414, I_199_415, I_199_416, I_199_417, I_199_418, I_199_419, I_199_420, I_199_423, I_199_426, I_199_427, I_199_958, I_199_961, nI_add, Option.toList_some, List.cons_append, List.nil_append, ↓reduceIte]
  exact ih σ2 h2
theorem lw_10 (E : ip_E) (hE : ip_fok2 E.2.2) (hL : E.2.1 ≤ 2048) {i : Nat} (hi : i + 4 ≤ E.2.1) {σ : ip_G} (hA : jA σ) (κ : Option Value → ip_G → Prop) (ih : ∀ σ2, jA σ2 → wp E 199 18 [.ref 1000000, .ref 0, .ref 92, .int (nI (i + 4))] [] σ2 κ) : wp E 199 428 [.ref 1000000, .ref 0, .ref 92, .int (nI i)] [] σ κ := by
  simp (disch := first | assumption | omega | exact tg_0 | exact tg_92) only [I_199_428, I_199_429, I_199_430, I_199_431, I_199_432, I_199_433, I_199_434, I_199_435, I_199_436, I_199_437, I_199_438, I_199_439, I_199_442, I_199_443, I_199_444, I_199_445, I_199_446, I_199_447, I_199_448, I_199_449, I_199_450, I_199_451, I_199_452, I_199_453, I_199_456, I_199_459, I_199_460, I_199_958, I_199_961, nI_add]
  refine j_tread E hE hA (E.1 (i + 1)) (E.1 (i + 2)) _ (fun v σ1 hm => ?_)
  simp (disch := first | assumption | omega | exact tg_0 | exact tg_92) only [I_199_428, I_199_429, I_199_430, I_199_431, I_199_432, I_199_433, I_199_434, I_199_435, I_199_436, I_199_437, I_199_438, I_199_439, I_199_442, I_199_443, I_199_444, I_199_445, I_199_446, I_199_447, I_199_448, I_199_449, I_199_450, I_199_451, I_199_452, I_199_453, I_199_456, I_199_459, I_199_460, I_199_958, I_199_961, nI_add, Option.toList_some, List.cons_append, List.nil_append]
  refine hm _ (fun σ2 h2 => ?_)
  simp (disch := first | assumption | omega | exact tg_0 | exact tg_92) only [I_199_428, I_199_429, I_199_430, I_199_431, I_199_432, I_199_433, I_199_434, I_199_435, I_199_436, I_199_437, I_199_438, I_199_439, I_199_442, I_199_443, I_199_444, I_199_445, I_199_446, I_199_447, I_199_448, I_199_449, I_199_450, I_199_451, I_199_452, I_199_453, I_199_456, I_199_459, I_199_460, I_199_958, I_199_961, nI_add, Option.toList_some, List.cons_append, List.nil_append, ↓reduceIte]
  exact ih σ2 h2
theorem lw_11 (E : ip_E) (hE : ip_fok2 E.2.2) (hL : E.2.1 ≤ 2048) {i : Nat} (hi : i + 4 ≤ E.2.1) {σ : ip_G} (hA : jA σ) (κ : Option Value → ip_G → Prop) (ih : ∀ σ2, jA σ2 → wp E 199 18 [.ref 1000000, .ref 0, .ref 92, .int (nI (i + 4))] [] σ2 κ) : wp E 199 461 [.ref 1000000, .ref 0, .ref 92, .int (nI i)] [] σ κ := by
  simp (disch := first | assumption | omega | exact tg_0 | exact tg_92) only [I_199_461, I_199_462, I_199_463, I_199_464, I_199_465, I_199_466, I_199_467, I_199_468, I_199_469, I_199_470, I_199_471, I_199_472, I_199_475, I_199_476, I_199_477, I_199_478, I_199_479, I_199_480, I_199_481, I_199_482, I_199_483, I_199_484, I_199_485, I_199_486, I_199_489, I_199_492, I_199_493, I_199_958, I_199_961, nI_add]
  refine j_warp E hE hA (E.1 (i + 1)) (E.1 (i + 2)) _ (fun v σ1 hm => ?_)
  simp (disch := first | assumption | omega | exact tg_0 | exact tg_92) only [I_199_461, I_199_462, I_199_463, I_199_464, I_199_465, I_199_466, I_199_467, I_199_468, I_199_469, I_199_470, I_199_471, I_199_472, I_199_475, I_199_476, I_199_477, I_199_478, I_199_479, I_199_480, I_199_481, I_199_482, I_199_483, I_199_484, I_199_485, I_199_486, I_199_489, I_199_492, I_199_493, I_199_958, I_199_961, nI_add, Option.toList_some, List.cons_append, List.nil_append]
  refine hm _ (fun σ2 h2 => ?_)
  simp (disch := first | assumption | omega | exact tg_0 | exact tg_92) only [I_199_461, I_199_462, I_199_463, I_199_464, I_199_465, I_199_466, I_199_467, I_199_468, I_199_469, I_199_470, I_199_471, I_199_472, I_199_475, I_199_476, I_199_477, I_199_478, I_199_479, I_199_480, I_199_481, I_199_482, I_199_483, I_199_484, I_199_485, I_199_486, I_199_489, I_199_492, I_199_493, I_199_958, I_199_961, nI_add, Option.toList_some, List.cons_append, List.nil_append, ↓reduceIte]
  exact ih σ2 h2
theorem lw_12 (E : ip_E) (hE : ip_fok2 E.2.2) (hL : E.2.1 ≤ 2048) {i : Nat} (hi : i + 4 ≤ E.2.1) {σ : ip_G} (hA : jA σ) (κ : Option Value → ip_G → Prop) (ih : ∀ σ2, jA σ2 → wp E 199 18 [.ref 1000000, .ref 0, .ref 92, .int (nI (i + 4))] [] σ2 κ) : wp E 199 494 [.ref 1000000, .ref 0, .ref 92, .int (nI i)] [] σ κ := by
  simp (disch := first | assumption | omega | exact tg_0 | exact tg_92) only [I_199_494, I_199_495, I_199_496, I_199_497, I_199_498, I_199_499, I_199_500, I_199_501, I_199_502, I_199_503, I_199_504, I_199_505, I_199_508, I_199_509, I_199_510, I_199_511, I_199_512, I_199_513, I_199_514, I_199_515, I_199_516, I_199_517, I_199_518, I_199_519, I_199_522, I_199_525, I_199_526, I_199_958, I_199_961, nI_add]
  refine j_weft E hE hA (E.1 (i + 1)) (E.1 (i + 2)) _ (fun v σ1 hm => ?_)
  simp (disch := first | assumption | omega | exact tg_0 | exact tg_92) only [I_199_494, I_199_495, I_199_496, I_199_497, I_199_498, I_199_499, I_199_500, I_199_501, I_199_502, I_199_503, I_199_504, I_199_505, I_199_508, I_199_509, I_199_510, I_199_511, I_199_512, I_199_513, I_199_514, I_199_515, I_199_516, I_199_517, I_199_518, I_199_519, I_199_522, I_199_525, I_199_526, I_199_958, I_199_961, nI_add, Option.toList_some, List.cons_append, List.nil_append]
  refine hm _ (fun σ2 h2 => ?_)
  simp (disch := first | assumption | omega | exact tg_0 | exact tg_92) only [I_199_494, I_199_495, I_199_496, I_199_497, I_199_498, I_199_499, I_199_500, I_199_501, I_199_502, I_199_503, I_199_504, I_199_505, I_199_508, I_199_509, I_199_510, I_199_511, I_199_512, I_199_513, I_199_514, I_199_515, I_199_516, I_199_517, I_199_518, I_199_519, I_199_522, I_199_525, I_199_526, I_199_958, I_199_961, nI_add, Option.toList_some, List.cons_append, List.nil_append, ↓reduceIte]
  exact ih σ2 h2
theorem lw_13 (E : ip_E) (hE : ip_fok2 E.2.2) (hL : E.2.1 ≤ 2048) {i : Nat} (hi : i + 4 ≤ E.2.1) {σ : ip_G} (hA : jA σ) (κ : Option Value → ip_G → Prop) (ih : ∀ σ2, jA σ2 → wp E 199 18 [.ref 1000000, .ref 0, .ref 92, .int (nI (i + 4))] [] σ2 κ) : wp E 199 527 [.ref 1000000, .ref 0, .ref 92, .int (nI i)] [] σ κ := by
  simp (disch := first | assumption | omega | exact tg_0 | exact tg_92) only [I_199_527, I_199_528, I_199_531, I_199_532, I_199_535, I_199_538, I_199_539, I_199_958, I_199_961, nI_add]
  refine j_sample E hE hA  _ (fun v σ1 hm => ?_)
  simp (disch := first | assumption | omega | exact tg_0 | exact tg_92) only [I_199_527, I_199_528, I_199_531, I_199_532, I_199_535, I_199_538, I_199_539, I_199_958, I_199_961, nI_add, Option.toList_some, List.cons_append, List.nil_append]
  refine hm _ (fun σ2 h2 => ?_)
  simp (disch := first | assumption | omega | exact tg_0 | exact tg_92) only [I_199_527, I_199_528, I_199_531, I_199_532, I_199_535, I_199_538, I_199_539, I_199_958, I_199_961, nI_add, Option.toList_some, List.cons_append, List.nil_append, ↓reduceIte]
  exact ih σ2 h2
theorem lw_14 (E : ip_E) (hE : ip_fok2 E.2.2) (hL : E.2.1 ≤ 2048) {i : Nat} (hi : i + 4 ≤ E.2.1) {σ : ip_G} (hA : jA σ) (κ : Option Value → ip_G → Prop) (ih : ∀ σ2, jA σ2 → wp E 199 18 [.ref 1000000, .ref 0, .ref 92, .int (nI (i + 4))] [] σ2 κ) : wp E 199 540 [.ref 1000000, .ref 0, .ref 92, .int (nI i)] [] σ κ := by
  simp (disch := first | assumption | omega | exact tg_0 | exact tg_92) only [I_199_540, I_199_541, I_199_544, I_199_545, I_199_548, I_199_551, I_199_552, I_199_958, I_199_961, nI_add]
  refine j_turn E hE hA  _ (fun v σ1 hm => ?_)
  simp (disch := first | assumption | omega | exact tg_0 | exact tg_92) only [I_199_540, I_199_541, I_199_544, I_199_545, I_199_548, I_199_551, I_199_552, I_199_958, I_199_961, nI_add, Option.toList_some, List.cons_append, List.nil_append]
  refine hm _ (fun σ2 h2 => ?_)
  simp (disch := first | assumption | omega | exact tg_0 | exact tg_92) only [I_199_540, I_199_541, I_199_544, I_199_545, I_199_548, I_199_551, I_199_552, I_199_958, I_199_961, nI_add, Option.toList_some, List.cons_append, List.nil_append, ↓reduceIte]
  exact ih σ2 h2
theorem lw_15 (E : ip_E) (hE : ip_fok2 E.2.2) (hL : E.2.1 ≤ 2048) {i : Nat} (hi : i + 4 ≤ E.2.1) {σ : ip_G} (hA : jA σ) (κ : Option Value → ip_G → Prop) (ih : ∀ σ2, jA σ2 → wp E 199 18 [.ref 1000000, .ref 0, .ref 92, .int (nI (i + 4))] [] σ2 κ) : wp E 199 553 [.ref 1000000, .ref 0, .ref 92, .int (nI i)] [] σ κ := by
  simp (disch := first | assumption | omega | exact tg_0 | exact tg_92) only [I_199_553, I_199_554, I_199_557, I_199_558, I_199_561, I_199_564, I_199_565, I_199_958, I_199_961, nI_add]
  refine j_undo E hE hA  _ (fun v σ1 hm => ?_)
  simp (disch := first | assumption | omega | exact tg_0 | exact tg_92) only [I_199_553, I_199_554, I_199_557, I_199_558, I_199_561, I_199_564, I_199_565, I_199_958, I_199_961, nI_add, Option.toList_some, List.cons_append, List.nil_append]
  refine hm _ (fun σ2 h2 => ?_)
  simp (disch := first | assumption | omega | exact tg_0 | exact tg_92) only [I_199_553, I_199_554, I_199_557, I_199_558, I_199_561, I_199_564, I_199_565, I_199_958, I_199_961, nI_add, Option.toList_some, List.cons_append, List.nil_append, ↓reduceIte]
  exact ih σ2 h2
theorem lw_16 (E : ip_E) (hE : ip_fok2 E.2.2) (hL : E.2.1 ≤ 2048) {i : Nat} (hi : i + 4 ≤ E.2.1) {σ : ip_G} (hA : jA σ) (κ : Option Value → ip_G → Prop) (ih : ∀ σ2, jA σ2 → wp E 199 18 [.ref 1000000, .ref 0, .ref 92, .int (nI (i + 4))] [] σ2 κ) : wp E 199 566 [.ref 1000000, .ref 0, .ref 92, .int (nI i)] [] σ κ := by
  simp (disch := first | assumption | omega | exact tg_0 | exact tg_92) only [I_199_566, I_199_567, I_199_568, I_199_569, I_199_570, I_199_571, I_199_572, I_199_575, I_199_576, I_199_577, I_199_578, I_199_579, I_199_580, I_199_581, I_199_584, I_199_587, I_199_588, I_199_958, I_199_961, nI_add]
  refine j_keep E hE hA (E.1 (i + 1)) _ (fun v σ1 hm => ?_)
  simp (disch := first | assumption | omega | exact tg_0 | exact tg_92) only [I_199_566, I_199_567, I_199_568, I_199_569, I_199_570, I_199_571, I_199_572, I_199_575, I_199_576, I_199_577, I_199_578, I_199_579, I_199_580, I_199_581, I_199_584, I_199_587, I_199_588, I_199_958, I_199_961, nI_add, Option.toList_some, List.cons_append, List.nil_append]
  refine hm _ (fun σ2 h2 => ?_)
  simp (disch := first | assumption | omega | exact tg_0 | exact tg_92) only [I_199_566, I_199_567, I_199_568, I_199_569, I_199_570, I_199_571, I_199_572, I_199_575, I_199_576, I_199_577, I_199_578, I_199_579, I_199_580, I_199_581, I_199_584, I_199_587, I_199_588, I_199_958, I_199_961, nI_add, Option.toList_some, List.cons_append, List.nil_append, ↓reduceIte]
  exact ih σ2 h2
theorem lw_17 (E : ip_E) (hE : ip_fok2 E.2.2) (hL : E.2.1 ≤ 2048) {i : Nat} (hi : i + 4 ≤ E.2.1) {σ : ip_G} (hA : jA σ) (κ : Option Value → ip_G → Prop) (ih : ∀ σ2, jA σ2 → wp E 199 18 [.ref 1000000, .ref 0, .ref 92, .int (nI (i + 4))] [] σ2 κ) : wp E 199 589 [.ref 1000000, .ref 0, .ref 92, .int (nI i)] [] σ κ := by
  simp (disch := first | assumption | omega | exact tg_0 | exact tg_92) only [I_199_589, I_199_590, I_199_591, I_199_592, I_199_593, I_199_594, I_199_595, I_199_598, I_199_599, I_199_600, I_199_601, I_199_602, I_199_603, I_199_604, I_199_607, I_199_610, I_199_611, I_199_958, I_199_961, nI_add]
  refine j_back E hE hA (E.1 (i + 1)) _ (fun v σ1 hm => ?_)
  simp (disch := first | assumption | omega | exact tg_0 | exact tg_92) only [I_199_589, I_199_590, I_199_591, I_199_592, I_199_593, I_199_594, I_199_595, I_199_598, I_199_599, I_199_600, I_199_601, I_199_602, I_199_603, I_199_604, I_199_607, I_199_610, I_199_611, I_199_958, I_199_961, nI_add, Option.toList_some, List.cons_append, List.nil_append]
  refine hm _ (fun σ2 h2 => ?_)
  simp (disch := first | assumption | omega | exact tg_0 | exact tg_92) only [I_199_589, I_199_590, I_199_591, I_199_592, I_199_593, I_199_594, I_199_595, I_199_598, I_199_599, I_199_600, I_199_601, I_199_602, I_199_603, I_199_604, I_199_607, I_199_610, I_199_611, I_199_958, I_199_961, nI_add, Option.toList_some, List.cons_append, List.nil_append, ↓reduceIte]
  exact ih σ2 h2
theorem lw_18 (E : ip_E) (hE : ip_fok2 E.2.2) (hL : E.2.1 ≤ 2048) {i : Nat} (hi : i + 4 ≤ E.2.1) {σ : ip_G} (hA : jA σ) (κ : Option Value → ip_G → Prop) (ih : ∀ σ2, jA σ2 → wp E 199 18 [.ref 1000000, .ref 0, .ref 92, .int (nI (i + 4))] [] σ2 κ) : wp E 199 612 [.ref 1000000, .ref 0, .ref 92, .int (nI i)] [] σ κ := by
  simp (disch := first | assumption | omega | exact tg_0 | exact tg_92) only [I_199_612, I_199_613, I_199_614, I_199_615, I_199_616, I_199_617, I_199_618, I_199_621, I_199_622, I_199_623, I_199_624, I_199_625, I_199_626, I_199_627, I_199_630, I_199_633, I_199_634, I_199_958, I_199_961, nI_add]
  refine j_least E hE hA (E.1 (i + 1)) _ (fun v σ1 hm => ?_)
  simp (disch := first | assumption | omega | exact tg_0 | exact tg_92) only [I_199_612, I_199_613, I_199_614, I_199_615, I_199_616, I_199_617, I_199_618, I_199_621, I_199_622, I_199_623, I_199_624, I_199_625, I_199_626, I_199_627, I_199_630, I_199_633, I_199_634, I_199_958, I_199_961, nI_add, Option.toList_some, List.cons_append, List.nil_append]
  refine hm _ (fun σ2 h2 => ?_)
  simp (disch := first | assumption | omega | exact tg_0 | exact tg_92) only [I_199_612, I_199_613, I_199_614, I_199_615, I_199_616, I_199_617, I_199_618, I_199_621, I_199_622, I_199_623, I_199_624, I_199_625, I_199_626, I_199_627, I_199_630, I_199_633, I_199_634, I_199_958, I_199_961, nI_add, Option.toList_some, List.cons_append, List.nil_append, ↓reduceIte]
  exact ih σ2 h2
theorem lw_19 (E : ip_E) (hE : ip_fok2 E.2.2) (hL : E.2.1 ≤ 2048) {i : Nat} (hi : i + 4 ≤ E.2.1) {σ : ip_G} (hA : jA σ) (κ : Option Value → ip_G → Prop) (ih : ∀ σ2, jA σ2 → wp E 199 18 [.ref 1000000, .ref 0, .ref 92, .int (nI (i + 4))] [] σ2 κ) : wp E 199 635 [.ref 1000000, .ref 0, .ref 92, .int (nI i)] [] σ κ := by
  simp (disch := first | assumption | omega | exact tg_0 | exact tg_92) only [I_199_635, I_199_636, I_199_637, I_199_638, I_199_639, I_199_640, I_199_641, I_199_642, I_199_643, I_199_644, I_199_645, I_199_646, I_199_649, I_199_650, I_199_651, I_199_652, I_199_653, I_199_654, I_199_655, I_199_656, I_199_657, I_199_658, I_199_659, I_199_660, I_199_663, I_199_666, I_199_667, I_199_958, I_199_961, nI_add]
  refine j_sampled E hE hA (E.1 (i + 1)) (E.1 (i + 2)) _ (fun v σ1 hm => ?_)
  simp (disch := first | assumption | omega | exact tg_0 | exact tg_92) only [I_199_635, I_199_636, I_199_637, I_199_638, I_199_639, I_199_640, I_199_641, I_199_642, I_199_643, I_199_644, I_199_645, I_199_646, I_199_649, I_199_650, I_199_651, I_199_652, I_199_653, I_199_654, I_199_655, I_199_656, I_199_657, I_199_658, I_199_659, I_199_660, I_199_663, I_199_666, I_199_667, I_199_958, I_199_961, nI_add, Option.toList_some, List.cons_append, List.nil_append]
  refine hm _ (fun σ2 h2 => ?_)
  simp (disch := first | assumption | omega | exact tg_0 | exact tg_92) only [I_199_635, I_199_636, I_199_637, I_199_638, I_199_639, I_199_640, I_199_641, I_199_642, I_199_643, I_199_644, I_199_645, I_199_646, I_199_649, I_199_650, I_199_651, I_199_652, I_199_653, I_199_654, I_199_655, I_199_656, I_199_657, I_199_658, I_199_659, I_199_660, I_199_663, I_199_666, I_199_667, I_199_958, I_199_961, nI_add, Option.toList_some, List.cons_append, List.nil_append, ↓reduceIte]
  exact ih σ2 h2
theorem lw_20 (E : ip_E) (hE : ip_fok2 E.2.2) (hL : E.2.1 ≤ 2048) {i : Nat} (hi : i + 4 ≤ E.2.1) {σ : ip_G} (hA : jA σ) (κ : Option Value → ip_G → Prop) (ih : ∀ σ2, jA σ2 → wp E 199 18 [.ref 1000000, .ref 0, .ref 92, .int (nI (i + 4))] [] σ2 κ) : wp E 199 668 [.ref 1000000, .ref 0, .ref 92, .int (nI i)] [] σ κ := by
  simp (disch := first | assumption | omega | exact tg_0 | exact tg_92) only [I_199_668, I_199_669, I_199_670, I_199_671, I_199_672, I_199_673, I_199_674, I_199_675, I_199_676, I_199_677, I_199_678, I_199_679, I_199_682, I_199_683, I_199_684, I_199_685, I_199_686, I_199_687, I_199_688, I_199_689, I_199_690, I_199_691, I_199_692, I_199_693, I_199_696, I_199_699, I_199_700, I_199_958, I_199_961, nI_add]
  refine j_tamed E hE hA (E.1 (i + 1)) (E.1 (i + 2)) _ (fun v σ1 hm => ?_)
  simp (disch := first | assumption | omega | exact tg_0 | exact tg_92) only [I_199_668, I_199_669, I_199_670, I_199_671, I_199_672, I_199_673, I_199_674, I_199_675, I_199_676, I_199_677, I_199_678, I_199_679, I_199_682, I_199_683, I_199_684, I_199_685, I_199_686, I_199_687, I_199_688, I_199_689, I_199_690, I_199_691, I_199_692, I_199_693, I_199_696, I_199_699, I_199_700, I_199_958, I_199_961, nI_add, Option.toList_some, List.cons_append, List.nil_append]
  refine hm _ (fun σ2 h2 => ?_)
  simp (disch := first | assumption | omega | exact tg_0 | exact tg_92) only [I_199_668, I_199_669, I_199_670, I_199_671, I_199_672, I_199_673, I_199_674, I_199_675, I_199_676, I_199_677, I_199_678, I_199_679, I_199_682, I_199_683, I_199_684, I_199_685, I_199_686, I_199_687, I_199_688, I_199_689, I_199_690, I_199_691, I_199_692, I_199_693, I_199_696, I_199_699, I_199_700, I_199_958, I_199_961, nI_add, Option.toList_some, List.cons_append, List.nil_append, ↓reduceIte]
  exact ih σ2 h2
theorem lw_21 (E : ip_E) (hE : ip_fok2 E.2.2) (hL : E.2.1 ≤ 2048) {i : Nat} (hi : i + 4 ≤ E.2.1) {σ : ip_G} (hA : jA σ) (κ : Option Value → ip_G → Prop) (ih : ∀ σ2, jA σ2 → wp E 199 18 [.ref 1000000, .ref 0, .ref 92, .int (nI (i + 4))] [] σ2 κ) : wp E 199 701 [.ref 1000000, .ref 0, .ref 92, .int (nI i)] [] σ κ := by
  simp (disch := first | assumption | omega | exact tg_0 | exact tg_92) only [I_199_701, I_199_702, I_199_703, I_199_704, I_199_705, I_199_706, I_199_707, I_199_708, I_199_709, I_199_710, I_199_711, I_199_712, I_199_715, I_199_716, I_199_717, I_199_718, I_199_719, I_199_720, I_199_721, I_199_722, I_199_723, I_199_724, I_199_725, I_199_726, I_199_729, I_199_732, I_199_733, I_199_958, I_199_961, nI_add]
  refine j_changed E hE hA (E.1 (i + 1)) (E.1 (i + 2)) _ (fun v σ1 hm => ?_)
  simp (disch := first | assumption | omega | exact tg_0 | exact tg_92) only [I_199_701, I_199_702, I_199_703, I_199_704, I_199_705, I_199_706, I_199_707, I_199_708, I_199_709, I_199_710, I_199_711, I_199_712, I_199_715, I_199_716, I_199_717, I_199_718, I_199_719, I_199_720, I_199_721, I_199_722, I_199_723, I_199_724, I_199_725, I_199_726, I_199_729, I_199_732, I_199_733, I_199_958, I_199_961, nI_add, Option.toList_some, List.cons_append, List.nil_append]
  refine hm _ (fun σ2 h2 => ?_)
  simp (disch := first | assumption | omega | exact tg_0 | exact tg_92) only [I_199_701, I_199_702, I_199_703, I_199_704, I_199_705, I_199_706, I_199_707, I_199_708, I_199_709, I_199_710, I_199_711, I_199_712, I_199_715, I_199_716, I_199_717, I_199_718, I_199_719, I_199_720, I_199_721, I_199_722, I_199_723, I_199_724, I_199_725, I_199_726, I_199_729, I_199_732, I_199_733, I_199_958, I_199_961, nI_add, Option.toList_some, List.cons_append, List.nil_append, ↓reduceIte]
  exact ih σ2 h2
theorem lw_22 (E : ip_E) (hE : ip_fok2 E.2.2) (hL : E.2.1 ≤ 2048) {i : Nat} (hi : i + 4 ≤ E.2.1) {σ : ip_G} (hA : jA σ) (κ : Option Value → ip_G → Prop) (ih : ∀ σ2, jA σ2 → wp E 199 18 [.ref 1000000, .ref 0, .ref 92, .int (nI (i + 4))] [] σ2 κ) : wp E 199 734 [.ref 1000000, .ref 0, .ref 92, .int (nI i)] [] σ κ := by
  simp (disch := first | assumption | omega | exact tg_0 | exact tg_92) only [I_199_734, I_199_735, I_199_736, I_199_737, I_199_738, I_199_739, I_199_740, I_199_743, I_199_744, I_199_745, I_199_746, I_199_747, I_199_748, I_199_749, I_199_752, I_199_755, I_199_756, I_199_958, I_199_961, nI_add]
  refine j_spool E hE hA (E.1 (i + 1)) _ (fun v σ1 hm => ?_)
  simp (disch := first | assumption | omega | exact tg_0 | exact tg_92) only [I_199_734, I_199_735, I_199_736, I_199_737, I_199_738, I_199_739, I_199_740, I_199_743, I_199_744, I_199_745, I_199_746, I_199_747, I_199_748, I_199_749, I_199_752, I_199_755, I_199_756, I_199_958, I_199_961, nI_add, Option.toList_some, List.cons_append, List.nil_append]
  refine hm _ (fun σ2 h2 => ?_)
  simp (disch := first | assumption | omega | exact tg_0 | exact tg_92) only [I_199_734, I_199_735, I_199_736, I_199_737, I_199_738, I_199_739, I_199_740, I_199_743, I_199_744, I_199_745, I_199_746, I_199_747, I_199_748, I_199_749, I_199_752, I_199_755, I_199_756, I_199_958, I_199_961, nI_add, Option.toList_some, List.cons_append, List.nil_append, ↓reduceIte]
  exact ih σ2 h2
theorem lw_23 (E : ip_E) (hE : ip_fok2 E.2.2) (hL : E.2.1 ≤ 2048) {i : Nat} (hi : i + 4 ≤ E.2.1) {σ : ip_G} (hA : jA σ) (κ : Option Value → ip_G → Prop) (ih : ∀ σ2, jA σ2 → wp E 199 18 [.ref 1000000, .ref 0, .ref 92, .int (nI (i + 4))] [] σ2 κ) : wp E 199 757 [.ref 1000000, .ref 0, .ref 92, .int (nI i)] [] σ κ := by
  simp (disch := first | assumption | omega | exact tg_0 | exact tg_92) only [I_199_757, I_199_758, I_199_759, I_199_760, I_199_761, I_199_762, I_199_763, I_199_764, I_199_765, I_199_766, I_199_767, I_199_768, I_199_771, I_199_772, I_199_773, I_199_774, I_199_775, I_199_776, I_199_777, I_199_778, I_199_779, I_199_780, I_199_781, I_199_782, I_199_785, I_199_788, I_199_789, I_199_958, I_199_961, nI_add]
  refine j_wind E hE hA (E.1 (i + 1)) (E.1 (i + 2)) _ (fun v σ1 hm => ?_)
  simp (disch := first | assumption | omega | exact tg_0 | exact tg_92) only [I_199_757, I_199_758, I_199_759, I_199_760, I_199_761, I_199_762, I_199_763, I_199_764, I_199_765, I_199_766, I_199_767, I_199_768, I_199_771, I_199_772, I_199_773, I_199_774, I_199_775, I_199_776, I_199_777, I_199_778, I_199_779, I_199_780, I_199_781, I_199_782, I_199_785, I_199_788, I_199_789, I_199_958, I_199_961, nI_add, Option.toList_some, List.cons_append, List.nil_append]
  refine hm _ (fun σ2 h2 => ?_)
  simp (disch := first | assumption | omega | exact tg_0 | exact tg_92) only [I_199_757, I_199_758, I_199_759, I_199_760, I_199_761, I_199_762, I_199_763, I_199_764, I_199_765, I_199_766, I_199_767, I_199_768, I_199_771, I_199_772, I_199_773, I_199_774, I_199_775, I_199_776, I_199_777, I_199_778, I_199_779, I_199_780, I_199_781, I_199_782, I_199_785, I_199_788, I_199_789, I_199_958, I_199_961, nI_add, Option.toList_some, List.cons_append, List.nil_append, ↓reduceIte]
  exact ih σ2 h2
theorem lw_24 (E : ip_E) (hE : ip_fok2 E.2.2) (hL : E.2.1 ≤ 2048) {i : Nat} (hi : i + 4 ≤ E.2.1) {σ : ip_G} (hA : jA σ) (κ : Option Value → ip_G → Prop) (ih : ∀ σ2, jA σ2 → wp E 199 18 [.ref 1000000, .ref 0, .ref 92, .int (nI (i + 4))] [] σ2 κ) : wp E 199 790 [.ref 1000000, .ref 0, .ref 92, .int (nI i)] [] σ κ := by
  simp (disch := first | assumption | omega | exact tg_0 | exact tg_92) only [I_199_790, I_199_791, I_199_792, I_199_793, I_199_794, I_199_795, I_199_796, I_199_797, I_199_798, I_199_799, I_199_800, I_199_801, I_199_804, I_199_805, I_199_806, I_199_807, I_199_808, I_199_809, I_199_810, I_199_811, I_199_812, I_199_813, I_199_814, I_199_815, I_199_818, I_199_821, I_199_822, I_199_958, I_199_961, nI_add]
  refine j_pull E hE hA (E.1 (i + 1)) (E.1 (i + 2)) _ (fun v σ1 hm => ?_)
  simp (disch := first | assumption | omega | exact tg_0 | exact tg_92) only [I_199_790, I_199_791, I_199_792, I_199_793, I_199_794, I_199_795, I_199_796, I_199_797, I_199_798, I_199_799, I_199_800, I_199_801, I_199_804, I_199_805, I_199_806, I_199_807, I_199_808, I_199_809, I_199_810, I_199_811, I_199_812, I_199_813, I_199_814, I_199_815, I_199_818, I_199_821, I_199_822, I_199_958, I_199_961, nI_add, Option.toList_some, List.cons_append, List.nil_append]
  refine hm _ (fun σ2 h2 => ?_)
  simp (disch := first | assumption | omega | exact tg_0 | exact tg_92) only [I_199_790, I_199_791, I_199_792, I_199_793, I_199_794, I_199_795, I_199_796, I_199_797, I_199_798, I_199_799, I_199_800, I_199_801, I_199_804, I_199_805, I_199_806, I_199_807, I_199_808, I_199_809, I_199_810, I_199_811, I_199_812, I_199_813, I_199_814, I_199_815, I_199_818, I_199_821, I_199_822, I_199_958, I_199_961, nI_add, Option.toList_some, List.cons_append, List.nil_append, ↓reduceIte]
  exact ih σ2 h2
theorem lw_25 (E : ip_E) (hE : ip_fok2 E.2.2) (hL : E.2.1 ≤ 2048) {i : Nat} (hi : i + 4 ≤ E.2.1) {σ : ip_G} (hA : jA σ) (κ : Option Value → ip_G → Prop) (ih : ∀ σ2, jA σ2 → wp E 199 18 [.ref 1000000, .ref 0, .ref 92, .int (nI (i + 4))] [] σ2 κ) : wp E 199 823 [.ref 1000000, .ref 0, .ref 92, .int (nI i)] [] σ κ := by
  simp (disch := first | assumption | omega | exact tg_0 | exact tg_92) only [I_199_823, I_199_824, I_199_825, I_199_826, I_199_827, I_199_828, I_199_829, I_199_832, I_199_833, I_199_834, I_199_835, I_199_836, I_199_837, I_199_838, I_199_841, I_199_844, I_199_845, I_199_958, I_199_961, nI_add]
  refine j_knot E hE hA (E.1 (i + 1)) _ (fun v σ1 hm => ?_)
  simp (disch := first | assumption | omega | exact tg_0 | exact tg_92) only [I_199_823, I_199_824, I_199_825, I_199_826, I_199_827, I_199_828, I_199_829, I_199_832, I_199_833, I_199_834, I_199_835, I_199_836, I_199_837, I_199_838, I_199_841, I_199_844, I_199_845, I_199_958, I_199_961, nI_add, Option.toList_some, List.cons_append, List.nil_append]
  refine hm _ (fun σ2 h2 => ?_)
  simp (disch := first | assumption | omega | exact tg_0 | exact tg_92) only [I_199_823, I_199_824, I_199_825, I_199_826, I_199_827, I_199_828, I_199_829, I_199_832, I_199_833, I_199_834, I_199_835, I_199_836, I_199_837, I_199_838, I_199_841, I_199_844, I_199_845, I_199_958, I_199_961, nI_add, Option.toList_some, List.cons_append, List.nil_append, ↓reduceIte]
  exact ih σ2 h2
theorem lw_26 (E : ip_E) (hE : ip_fok2 E.2.2) (hL : E.2.1 ≤ 2048) {i : Nat} (hi : i + 4 ≤ E.2.1) {σ : ip_G} (hA : jA σ) (κ : Option Value → ip_G → Prop) (ih : ∀ σ2, jA σ2 → wp E 199 18 [.ref 1000000, .ref 0, .ref 92, .int (nI (i + 4))] [] σ2 κ) : wp E 199 846 [.ref 1000000, .ref 0, .ref 92, .int (nI i)] [] σ κ := by
  simp (disch := first | assumption | omega | exact tg_0 | exact tg_92) only [I_199_846, I_199_847, I_199_848, I_199_849, I_199_850, I_199_851, I_199_852, I_199_853, I_199_854, I_199_855, I_199_856, I_199_857, I_199_860, I_199_861, I_199_862, I_199_863, I_199_864, I_199_865, I_199_866, I_199_867, I_199_868, I_199_869, I_199_870, I_199_871, I_199_874, I_199_877, I_199_878, I_199_958, I_199_961, nI_add]
  refine j_measure E hE hA (E.1 (i + 1)) (E.1 (i + 2)) _ (fun v σ1 hm => ?_)
  simp (disch := first | assumption | omega | exact tg_0 | exact tg_92) only [I_199_846, I_199_847, I_199_848, I_199_849, I_199_850, I_199_851, I_199_852, I_199_853, I_199_854, I_199_855, I_199_856, I_199_857, I_199_860, I_199_861, I_199_862, I_199_863, I_199_864, I_199_865, I_199_866, I_199_867, I_199_868, I_199_869, I_199_870, I_199_871, I_199_874, I_199_877, I_199_878, I_199_958, I_199_961, nI_add, Option.toList_some, List.cons_append, List.nil_append]
  refine hm _ (fun σ2 h2 => ?_)
  simp (disch := first | assumption | omega | exact tg_0 | exact tg_92) only [I_199_846, I_199_847, I_199_848, I_199_849, I_199_850, I_199_851, I_199_852, I_199_853, I_199_854, I_199_855, I_199_856, I_199_857, I_199_860, I_199_861, I_199_862, I_199_863, I_199_864, I_199_865, I_199_866, I_199_867, I_199_868, I_199_869, I_199_870, I_199_871, I_199_874, I_199_877, I_199_878, I_199_958, I_199_961, nI_add, Option.toList_some, List.cons_append, List.nil_append, ↓reduceIte]
  exact ih σ2 h2
theorem lw_27 (E : ip_E) (hE : ip_fok2 E.2.2) (hL : E.2.1 ≤ 2048) {i : Nat} (hi : i + 4 ≤ E.2.1) {σ : ip_G} (hA : jA σ) (κ : Option Value → ip_G → Prop) (ih : ∀ σ2, jA σ2 → wp E 199 18 [.ref 1000000, .ref 0, .ref 92, .int (nI (i + 4))] [] σ2 κ) : wp E 199 879 [.ref 1000000, .ref 0, .ref 92, .int (nI i)] [] σ κ := by
  simp (disch := first | assumption | omega | exact tg_0 | exact tg_92) only [I_199_879, I_199_880, I_199_881, I_199_882, I_199_883, I_199_884, I_199_885, I_199_886, I_199_887, I_199_888, I_199_889, I_199_890, I_199_893, I_199_894, I_199_895, I_199_896, I_199_897, I_199_898, I_199_899, I_199_900, I_199_901, I_199_902, I_199_903, I_199_904, I_199_907, I_199_910, I_199_911, I_199_958, I_199_961, nI_add]
  refine j_rewind E hE hA (E.1 (i + 1)) (E.1 (i + 2)) _ (fun v σ1 hm => ?_)
  simp (disch := first | assumption | omega | exact tg_0 | exact tg_92) only [I_199_879, I_199_880, I_199_881, I_199_882, I_199_883, I_199_884, I_199_885, I_199_886, I_199_887, I_199_888, I_199_889, I_199_890, I_199_893, I_199_894, I_199_895, I_199_896, I_199_897, I_199_898, I_199_899, I_199_900, I_199_901, I_199_902, I_199_903, I_199_904, I_199_907, I_199_910, I_199_911, I_199_958, I_199_961, nI_add, Option.toList_some, List.cons_append, List.nil_append]
  refine hm _ (fun σ2 h2 => ?_)
  simp (disch := first | assumption | omega | exact tg_0 | exact tg_92) only [I_199_879, I_199_880, I_199_881, I_199_882, I_199_883, I_199_884, I_199_885, I_199_886, I_199_887, I_199_888, I_199_889, I_199_890, I_199_893, I_199_894, I_199_895, I_199_896, I_199_897, I_199_898, I_199_899, I_199_900, I_199_901, I_199_902, I_199_903, I_199_904, I_199_907, I_199_910, I_199_911, I_199_958, I_199_961, nI_add, Option.toList_some, List.cons_append, List.nil_append, ↓reduceIte]
  exact ih σ2 h2
theorem lw_28 (E : ip_E) (hE : ip_fok2 E.2.2) (hL : E.2.1 ≤ 2048) {i : Nat} (hi : i + 4 ≤ E.2.1) {σ : ip_G} (hA : jA σ) (κ : Option Value → ip_G → Prop) (ih : ∀ σ2, jA σ2 → wp E 199 18 [.ref 1000000, .ref 0, .ref 92, .int (nI (i + 4))] [] σ2 κ) : wp E 199 912 [.ref 1000000, .ref 0, .ref 92, .int (nI i)] [] σ κ := by
  simp (disch := first | assumption | omega | exact tg_0 | exact tg_92) only [I_199_912, I_199_913, I_199_914, I_199_915, I_199_916, I_199_917, I_199_918, I_199_921, I_199_922, I_199_923, I_199_924, I_199_925, I_199_926, I_199_927, I_199_930, I_199_933, I_199_934, I_199_958, I_199_961, nI_add]
  refine j_drop E hE hA (E.1 (i + 1)) _ (fun v σ1 hm => ?_)
  simp (disch := first | assumption | omega | exact tg_0 | exact tg_92) only [I_199_912, I_199_913, I_199_914, I_199_915, I_199_916, I_199_917, I_199_918, I_199_921, I_199_922, I_199_923, I_199_924, I_199_925, I_199_926, I_199_927, I_199_930, I_199_933, I_199_934, I_199_958, I_199_961, nI_add, Option.toList_some, List.cons_append, List.nil_append]
  refine hm _ (fun σ2 h2 => ?_)
  simp (disch := first | assumption | omega | exact tg_0 | exact tg_92) only [I_199_912, I_199_913, I_199_914, I_199_915, I_199_916, I_199_917, I_199_918, I_199_921, I_199_922, I_199_923, I_199_924, I_199_925, I_199_926, I_199_927, I_199_930, I_199_933, I_199_934, I_199_958, I_199_961, nI_add, Option.toList_some, List.cons_append, List.nil_append, ↓reduceIte]
  exact ih σ2 h2
theorem lw_29 (E : ip_E) (hE : ip_fok2 E.2.2) (hL : E.2.1 ≤ 2048) {i : Nat} (hi : i + 4 ≤ E.2.1) {σ : ip_G} (hA : jA σ) (κ : Option Value → ip_G → Prop) (ih : ∀ σ2, jA σ2 → wp E 199 18 [.ref 1000000, .ref 0, .ref 92, .int (nI (i + 4))] [] σ2 κ) : wp E 199 935 [.ref 1000000, .ref 0, .ref 92, .int (nI i)] [] σ κ := by
  simp (disch := first | assumption | omega | exact tg_0 | exact tg_92) only [I_199_935, I_199_936, I_199_937, I_199_938, I_199_939, I_199_940, I_199_941, I_199_944, I_199_945, I_199_946, I_199_947, I_199_948, I_199_949, I_199_950, I_199_953, I_199_956, I_199_957, I_199_958, I_199_961, nI_add]
  refine j_count E hE hA (E.1 (i + 1)) _ (fun v σ1 hm => ?_)
  simp (disch := first | assumption | omega | exact tg_0 | exact tg_92) only [I_199_935, I_199_936, I_199_937, I_199_938, I_199_939, I_199_940, I_199_941, I_199_944, I_199_945, I_199_946, I_199_947, I_199_948, I_199_949, I_199_950, I_199_953, I_199_956, I_199_957, I_199_958, I_199_961, nI_add, Option.toList_some, List.cons_append, List.nil_append]
  refine hm _ (fun σ2 h2 => ?_)
  simp (disch := first | assumption | omega | exact tg_0 | exact tg_92) only [I_199_935, I_199_936, I_199_937, I_199_938, I_199_939, I_199_940, I_199_941, I_199_944, I_199_945, I_199_946, I_199_947, I_199_948, I_199_949, I_199_950, I_199_953, I_199_956, I_199_957, I_199_958, I_199_961, nI_add, Option.toList_some, List.cons_append, List.nil_append, ↓reduceIte]
  exact ih σ2 h2
theorem lw_loop (E : ip_E) (hE : ip_fok2 E.2.2) (hL : E.2.1 ≤ 2048) (κ : Option Value → ip_G → Prop) (hk : ∀ σ2, jA σ2 → κ (some (.int (nI 1))) σ2) : ∀ (m i : Nat) (σ : ip_G), E.2.1 ≤ i + m → i ≤ 2052 → jA σ → wp E 199 18 [.ref 1000000, .ref 0, .ref 92, .int (nI i)] [] σ κ := by
  intro m
  induction m with
  | zero =>
    intro i σ h1 h2 hA
    have hc : nI E.2.1 - nI 4 < nI i := (lw_cond hL (by omega)).mpr (by omega)
    simp (disch := first | assumption | omega | exact Or.inr rfl) only [I_199_18, I_199_19, I_199_20, I_199_21, I_199_22, I_199_23, I_199_26, I_199_27, I_199_28, I_199_29, I_199_31, I_199_964, I_199_965, hc, ↓reduceIte]
    exact hk σ hA
  | succ m ih =>
    intro i σ h1 h2 hA
    by_cases h : E.2.1 < i + 4
    · have hc : nI E.2.1 - nI 4 < nI i := (lw_cond hL (by omega)).mpr h
      simp (disch := first | assumption | omega | exact Or.inr rfl) only [I_199_18, I_199_19, I_199_20, I_199_21, I_199_22, I_199_23, I_199_26, I_199_27, I_199_28, I_199_29, I_199_31, I_199_964, I_199_965, hc, ↓reduceIte]
      exact hk σ hA
    · have hc : ¬ nI E.2.1 - nI 4 < nI i := fun z => h ((lw_cond hL (by omega)).mp z)
      have hi : i + 4 ≤ E.2.1 := by omega
      have hj : i < E.2.1 := by omega
      have hn : ∀ σ2, jA σ2 → wp E 199 18 [.ref 1000000, .ref 0, .ref 92, .int (nI (i + 4))] [] σ2 κ := fun σ2 h2 => ih (i + 4) σ2 (by omega) (by omega) h2
      obtain ⟨v, hv, hx⟩ := lw_31 (E.1 i)
      rw [I_199_18]
      simp (disch := first | assumption | omega) only [I_199_19, I_199_20, I_199_21, I_199_22, I_199_23, I_199_26, I_199_27, I_199_28, I_199_29, I_199_31, hc, hx, ↓reduceIte]
      have h31 : v = 0 ∨ v = 1 ∨ v = 2 ∨ v = 3 ∨ v = 4 ∨ v = 5 ∨ v = 6 ∨ v = 7 ∨ v = 8 ∨ v = 9 ∨ v = 10 ∨ v = 11 ∨ v = 12 ∨ v = 13 ∨ v = 14 ∨ v = 15 ∨ v = 16 ∨ v = 17 ∨ v = 18 ∨ v = 19 ∨ v = 20 ∨ v = 21 ∨ v = 22 ∨ v = 23 ∨ v = 24 ∨ v = 25 ∨ v = 26 ∨ v = 27 ∨ v = 28 ∨ v = 29 ∨ v = 30 ∨ v = 31 := by omega
      rcases h31 with rfl | rfl | rfl | rfl | rfl | rfl | rfl | rfl | rfl | rfl | rfl | rfl | rfl | rfl | rfl | rfl | rfl | rfl | rfl | rfl | rfl | rfl | rfl | rfl | rfl | rfl | rfl | rfl | rfl | rfl | rfl | rfl
      · rw [I_199_32_c0]
        exact lw_0 E hE hL hi hA κ hn
      · rw [I_199_32_c1]
        exact lw_1 E hE hL hi hA κ hn
      · rw [I_199_32_c2]
        exact lw_2 E hE hL hi hA κ hn
      · rw [I_199_32_c3]
        exact lw_3 E hE hL hi hA κ hn
      · rw [I_199_32_c4]
        exact lw_4 E hE hL hi hA κ hn
      · rw [I_199_32_c5]
        exact lw_5 E hE hL hi hA κ hn
      · rw [I_199_32_c6]
        exact lw_6 E hE hL hi hA κ hn
      · rw [I_199_32_c7]
        exact lw_7 E hE hL hi hA κ hn
      · rw [I_199_32_c8]
        exact lw_8 E hE hL hi hA κ hn
      · rw [I_199_32_c9]
        exact lw_9 E hE hL hi hA κ hn
      · rw [I_199_32_c10]
        exact lw_10 E hE hL hi hA κ hn
      · rw [I_199_32_c11]
        exact lw_11 E hE hL hi hA κ hn
      · rw [I_199_32_c12]
        exact lw_12 E hE hL hi hA κ hn
      · rw [I_199_32_c13]
        exact lw_13 E hE hL hi hA κ hn
      · rw [I_199_32_c14]
        exact lw_14 E hE hL hi hA κ hn
      · rw [I_199_32_c15]
        exact lw_15 E hE hL hi hA κ hn
      · rw [I_199_32_c16]
        exact lw_16 E hE hL hi hA κ hn
      · rw [I_199_32_c17]
        exact lw_17 E hE hL hi hA κ hn
      · rw [I_199_32_c18]
        exact lw_18 E hE hL hi hA κ hn
      · rw [I_199_32_c19]
        exact lw_19 E hE hL hi hA κ hn
      · rw [I_199_32_c20]
        exact lw_20 E hE hL hi hA κ hn
      · rw [I_199_32_c21]
        exact lw_21 E hE hL hi hA κ hn
      · rw [I_199_32_c22]
        exact lw_22 E hE hL hi hA κ hn
      · rw [I_199_32_c23]
        exact lw_23 E hE hL hi hA κ hn
      · rw [I_199_32_c24]
        exact lw_24 E hE hL hi hA κ hn
      · rw [I_199_32_c25]
        exact lw_25 E hE hL hi hA κ hn
      · rw [I_199_32_c26]
        exact lw_26 E hE hL hi hA κ hn
      · rw [I_199_32_c27]
        exact lw_27 E hE hL hi hA κ hn
      · rw [I_199_32_c28]
        exact lw_28 E hE hL hi hA κ hn
      · rw [I_199_32_c29]
        exact lw_29 E hE hL hi hA κ hn
      · rw [I_199_32_d _ _ _ _ _ _ _ _ (Or.inr (by decide +kernel)), I_199_958, I_199_961, nI_add]
        exact hn σ hA
      · rw [I_199_32_d _ _ _ _ _ _ _ _ (Or.inr (by decide +kernel)), I_199_958, I_199_961, nI_add]
        exact hn σ hA
