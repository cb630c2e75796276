/-! THE LAW, 2: its cases -/
theorem lc_refl (x : Int64) : lg_cmp x x = nI 0 := by
  have h1 : ¬ lg_cmp x x < nI 0 := by rw [lc_lt]; exact Int64.lt_irrefl
  have h2 : ¬ nI 0 < lg_cmp x x := by rw [lc_gt]; exact Int64.lt_irrefl
  exact Int32.le_antisymm (Int32.not_lt.1 h2) (Int32.not_lt.1 h1)
/-- what is sure while the law runs -/
def LwS (B b L : Nat) (m : am_M) : Prop := Good B m ∧ b < B ∧ mK m b = (6, 0, L) ∧ L ≤ 3072
def LwG (B b L pc i : Nat) (m : am_M) : Prop := ∃ m', ev 40 225 pc [some (.ref b), some (.ref B), some (.ref (B + 82)), some (.int (nI i))] [] m = ev 40 225 1266 [some (.ref b), some (.ref B), some (.ref (B + 82)), some (.int (nI i))] [] m' ∧ Good B m' ∧ Bel B m m'
theorem Good.ks {B : Nat} {m : am_M} (G : Good B m) : mK m B = (1, 9, 0) ∧ mK m (B + 82) = (1, 10, 0) ∧ B + 82 < mS m ∧ mS m ≤ B + 600000 ∧ mN m ≤ 7302250 := by
  obtain ⟨s, c, w, W⟩ := G
  obtain ⟨ix, kp⟩ := c.2.2.2.2.2.2.2.2
  have h := kp.2.2.1
  have hN := kp.2.2.2.1
  have cn : cnI ix ≤ 3 := by unfold cnI; split <;> split <;> split <;> omega
  exact ⟨c.1.k, w.1.k, by omega, by omega, by omega⟩
theorem lw_0 {B b L i : Nat} {m : am_M} (h : LwS B b L m) (hi : i + 6 ≤ L) : LwG B b L 200 i m := by
  obtain ⟨G, hb, hK, hL⟩ := h
  obtain ⟨k0, kM, hs, -⟩ := G.ks
  have O : Op1 B 90 162 [.int (mI m b (i + 1)), .int (mI m b (i + 2)), .int (mI m b (i + 3)), .int (mI m b (i + 4)), .int (mI m b (i + 5))] m := op_0 G
  obtain ⟨v, m1, m2, e1, e2, G', bl⟩ := O
  have q := kq_cal e1
  have kb := (q.2 b (by omega)).1
  have ib := (q.2 b (by omega)).2 (by rw [hK])
  have km := (q.2 (B + 82) (by omega)).1
  rw [hK] at kb
  rw [kM] at km
  simp only at ib
  refine ⟨m2, ?_, G', bl⟩
  simp (disch := first | (simp (disch := omega) only [am_k_some, va_rf_some, va_rf_none, tl_some, tl_none, am_clr_int, am_clr_ref, am_clr_none, am_clr_long, am_w_nil, am_w_int, am_w_ref, am_w_long, am_w_null, am_bb_0, am_bb_1, am_bb_bI, xK_sI, xR_sI, xS_sI, xN_sI, xK_sL, xR_sL, xS_sL, xN_sL, xK_sR, xR_sR, xS_sR, xN_sR, xK_sA, xR_sA, xS_sA, xN_sA, Nat.reduceAdd, Nat.reduceLeDiff, sI_sA, I_sA', sA_sA, I_sA, I_sA', nI_add, mul_nI, bI_0, bI_1, k0, hK, kb, km, ix_nI, cl_nI]; done) | omega | assumption) only [e225_200, e225_201, e225_202, e225_203, e225_204, e225_205, e225_206, e225_207, e225_208, e225_209, e225_210, e225_211, e225_212, e225_213, e225_214, e225_215, e225_216, e225_217, e225_218, e225_219, e225_220, e225_221, e225_222, e225_223, e225_224, e225_225, e225_226, e225_229, e225_230, e225_231, e225_232, e225_233, e225_234, e225_235, e225_236, e225_237, e225_238, e225_239, e225_240, e225_241, e225_242, e225_243, e225_244, e225_245, e225_246, e225_247, e225_248, e225_249, e225_250, e225_251, e225_252, e225_253, e225_254, e225_255, e225_258, am_k_some, va_rf_some, va_rf_none, tl_some, tl_none, am_clr_int, am_clr_ref, am_clr_none, am_clr_long, am_w_nil, am_w_int, am_w_ref, am_w_long, am_w_null, am_bb_0, am_bb_1, am_bb_bI, xK_sI, xR_sI, xS_sI, xN_sI, xK_sL, xR_sL, xS_sL, xN_sL, xK_sR, xR_sR, xS_sR, xN_sR, xK_sA, xR_sA, xS_sA, xN_sA, Nat.reduceAdd, Nat.reduceLeDiff, sI_sA, I_sA', sA_sA, I_sA, I_sA', nI_add, mul_nI, bI_0, bI_1, k0, hK, kb, km, ib, ix_nI, cl_nI, lt_nI, eq_nI, sub_nI, Nat.reduceEqDiff, Nat.one_ne_zero, Nat.not_lt_zero, ↓reduceIte, e1, e2, lc_refl]
theorem lw_1 {B b L i : Nat} {m : am_M} (h : LwS B b L m) (hi : i + 6 ≤ L) : LwG B b L 263 i m := by
  obtain ⟨G, hb, hK, hL⟩ := h
  obtain ⟨k0, kM, hs, -⟩ := G.ks
  have O : Op1 B 91 163 [.int (mI m b (i + 1))] m := op_1 G
  obtain ⟨v, m1, m2, e1, e2, G', bl⟩ := O
  have q := kq_cal e1
  have kb := (q.2 b (by omega)).1
  have ib := (q.2 b (by omega)).2 (by rw [hK])
  have km := (q.2 (B + 82) (by omega)).1
  rw [hK] at kb
  rw [kM] at km
  simp only at ib
  refine ⟨m2, ?_, G', bl⟩
  simp (disch := first | (simp (disch := omega) only [am_k_some, va_rf_some, va_rf_none, tl_some, tl_none, am_clr_int, am_clr_ref, am_clr_none, am_clr_long, am_w_nil, am_w_int, am_w_ref, am_w_long, am_w_null, am_bb_0, am_bb_1, am_bb_bI, xK_sI, xR_sI, xS_sI, xN_sI, xK_sL, xR_sL, xS_sL, xN_sL, xK_sR, xR_sR, xS_sR, xN_sR, xK_sA, xR_sA, xS_sA, xN_sA, Nat.reduceAdd, Nat.reduceLeDiff, sI_sA, I_sA', sA_sA, I_sA, I_sA', nI_add, mul_nI, bI_0, bI_1, k0, hK, kb, km, ix_nI, cl_nI]; done) | omega | assumption) only [e225_263, e225_264, e225_265, e225_266, e225_267, e225_268, e225_269, e225_272, e225_273, e225_274, e225_275, e225_276, e225_277, e225_278, e225_281, am_k_some, va_rf_some, va_rf_none, tl_some, tl_none, am_clr_int, am_clr_ref, am_clr_none, am_clr_long, am_w_nil, am_w_int, am_w_ref, am_w_long, am_w_null, am_bb_0, am_bb_1, am_bb_bI, xK_sI, xR_sI, xS_sI, xN_sI, xK_sL, xR_sL, xS_sL, xN_sL, xK_sR, xR_sR, xS_sR, xN_sR, xK_sA, xR_sA, xS_sA, xN_sA, Nat.reduceAdd, Nat.reduceLeDiff, sI_sA, I_sA', sA_sA, I_sA, I_sA', nI_add, mul_nI, bI_0, bI_1, k0, hK, kb, km, ib, ix_nI, cl_nI, lt_nI, eq_nI, sub_nI, Nat.reduceEqDiff, Nat.one_ne_zero, Nat.not_lt_zero, ↓reduceIte, e1, e2, lc_refl]
theorem lw_2 {B b L i : Nat} {m : am_M} (h : LwS B b L m) (hi : i + 6 ≤ L) : LwG B b L 286 i m := by
  obtain ⟨G, hb, hK, hL⟩ := h
  obtain ⟨k0, kM, hs, -⟩ := G.ks
  have O : Op1 B 92 165 [.int (mI m b (i + 1)), .int (mI m b (i + 2))] m := op_2 G
  obtain ⟨v, m1, m2, e1, e2, G', bl⟩ := O
  have q := kq_cal e1
  have kb := (q.2 b (by omega)).1
  have ib := (q.2 b (by omega)).2 (by rw [hK])
  have km := (q.2 (B + 82) (by omega)).1
  rw [hK] at kb
  rw [kM] at km
  simp only at ib
  refine ⟨m2, ?_, G', bl⟩
  simp (disch := first | (simp (disch := omega) only [am_k_some, va_rf_some, va_rf_none, tl_some, tl_none, am_clr_int, am_clr_ref, am_clr_none, am_clr_long, am_w_nil, am_w_int, am_w_ref, am_w_long, am_w_null, am_bb_0, am_bb_1, am_bb_bI, xK_sI, xR_sI, xS_sI, xN_sI, xK_sL, xR_sL, xS_sL, xN_sL, xK_sR, xR_sR, xS_sR, xN_sR, xK_sA, xR_sA, xS_sA, xN_sA, Nat.reduceAdd, Nat.reduceLeDiff, sI_sA, I_sA', sA_sA, I_sA, I_sA', nI_add, mul_nI, bI_0, bI_1, k0, hK, kb, km, ix_nI, cl_nI]; done) | omega | assumption) only [e225_286, e225_287, e225_288, e225_289, e225_290, e225_291, e225_292, e225_293, e225_294, e225_295, e225_296, e225_297, e225_300, e225_301, e225_302, e225_303, e225_304, e225_305, e225_306, e225_307, e225_308, e225_309, e225_310, e225_311, e225_314, am_k_some, va_rf_some, va_rf_none, tl_some, tl_none, am_clr_int, am_clr_ref, am_clr_none, am_clr_long, am_w_nil, am_w_int, am_w_ref, am_w_long, am_w_null, am_bb_0, am_bb_1, am_bb_bI, xK_sI, xR_sI, xS_sI, xN_sI, xK_sL, xR_sL, xS_sL, xN_sL, xK_sR, xR_sR, xS_sR, xN_sR, xK_sA, xR_sA, xS_sA, xN_sA, Nat.reduceAdd, Nat.reduceLeDiff, sI_sA, I_sA', sA_sA, I_sA, I_sA', nI_add, mul_nI, bI_0, bI_1, k0, hK, kb, km, ib, ix_nI, cl_nI, lt_nI, eq_nI, sub_nI, Nat.reduceEqDiff, Nat.one_ne_zero, Nat.not_lt_zero, ↓reduceIte, e1, e2, lc_refl]
theorem lw_3 {B b L i : Nat} {m : am_M} (h : LwS B b L m) (hi : i + 6 ≤ L) : LwG B b L 319 i m := by
  obtain ⟨G, hb, hK, hL⟩ := h
  obtain ⟨k0, kM, hs, -⟩ := G.ks
  have O : Op1 B 93 167 [.int (mI m b (i + 1)), .int (mI m b (i + 2))] m := op_3 G
  obtain ⟨v, m1, m2, e1, e2, G', bl⟩ := O
  have q := kq_cal e1
  have kb := (q.2 b (by omega)).1
  have ib := (q.2 b (by omega)).2 (by rw [hK])
  have km := (q.2 (B + 82) (by omega)).1
  rw [hK] at kb
  rw [kM] at km
  simp only at ib
  refine ⟨m2, ?_, G', bl⟩
  simp (disch := first | (simp (disch := omega) only [am_k_some, va_rf_some, va_rf_none, tl_some, tl_none, am_clr_int, am_clr_ref, am_clr_none, am_clr_long, am_w_nil, am_w_int, am_w_ref, am_w_long, am_w_null, am_bb_0, am_bb_1, am_bb_bI, xK_sI, xR_sI, xS_sI, xN_sI, xK_sL, xR_sL, xS_sL, xN_sL, xK_sR, xR_sR, xS_sR, xN_sR, xK_sA, xR_sA, xS_sA, xN_sA, Nat.reduceAdd, Nat.reduceLeDiff, sI_sA, I_sA', sA_sA, I_sA, I_sA', nI_add, mul_nI, bI_0, bI_1, k0, hK, kb, km, ix_nI, cl_nI]; done) | omega | assumption) only [e225_319, e225_320, e225_321, e225_322, e225_323, e225_324, e225_325, e225_326, e225_327, e225_328, e225_329, e225_330, e225_333, e225_334, e225_335, e225_336, e225_337, e225_338, e225_339, e225_340, e225_341, e225_342, e225_343, e225_344, e225_347, am_k_some, va_rf_some, va_rf_none, tl_some, tl_none, am_clr_int, am_clr_ref, am_clr_none, am_clr_long, am_w_nil, am_w_int, am_w_ref, am_w_long, am_w_null, am_bb_0, am_bb_1, am_bb_bI, xK_sI, xR_sI, xS_sI, xN_sI, xK_sL, xR_sL, xS_sL, xN_sL, xK_sR, xR_sR, xS_sR, xN_sR, xK_sA, xR_sA, xS_sA, xN_sA, Nat.reduceAdd, Nat.reduceLeDiff, sI_sA, I_sA', sA_sA, I_sA, I_sA', nI_add, mul_nI, bI_0, bI_1, k0, hK, kb, km, ib, ix_nI, cl_nI, lt_nI, eq_nI, sub_nI, Nat.reduceEqDiff, Nat.one_ne_zero, Nat.not_lt_zero, ↓reduceIte, e1, e2, lc_refl]
theorem lw_4 {B b L i : Nat} {m : am_M} (h : LwS B b L m) (hi : i + 6 ≤ L) : LwG B b L 352 i m := by
  obtain ⟨G, hb, hK, hL⟩ := h
  obtain ⟨k0, kM, hs, -⟩ := G.ks
  have O : Op1 B 94 168 [.int (mI m b (i + 1)), .int (mI m b (i + 2))] m := op_4 G
  obtain ⟨v, m1, m2, e1, e2, G', bl⟩ := O
  have q := kq_cal e1
  have kb := (q.2 b (by omega)).1
  have ib := (q.2 b (by omega)).2 (by rw [hK])
  have km := (q.2 (B + 82) (by omega)).1
  rw [hK] at kb
  rw [kM] at km
  simp only at ib
  refine ⟨m2, ?_, G', bl⟩
  simp (disch := first | (simp (disch := omega) only [am_k_some, va_rf_some, va_rf_none, tl_some, tl_none, am_clr_int, am_clr_ref, am_clr_none, am_clr_long, am_w_nil, am_w_int, am_w_ref, am_w_long, am_w_null, am_bb_0, am_bb_1, am_bb_bI, xK_sI, xR_sI, xS_sI, xN_sI, xK_sL, xR_sL, xS_sL, xN_sL, xK_sR, xR_sR, xS_sR, xN_sR, xK_sA, xR_sA, xS_sA, xN_sA, Nat.reduceAdd, Nat.reduceLeDiff, sI_sA, I_sA', sA_sA, I_sA, I_sA', nI_add, mul_nI, bI_0, bI_1, k0, hK, kb, km, ix_nI, cl_nI]; done) | omega | assumption) only [e225_352, e225_353, e225_354, e225_355, e225_356, e225_357, e225_358, e225_359, e225_360, e225_361, e225_362, e225_363, e225_366, e225_367, e225_368, e225_369, e225_370, e225_371, e225_372, e225_373, e225_374, e225_375, e225_376, e225_377, e225_380, am_k_some, va_rf_some, va_rf_none, tl_some, tl_none, am_clr_int, am_clr_ref, am_clr_none, am_clr_long, am_w_nil, am_w_int, am_w_ref, am_w_long, am_w_null, am_bb_0, am_bb_1, am_bb_bI, xK_sI, xR_sI, xS_sI, xN_sI, xK_sL, xR_sL, xS_sL, xN_sL, xK_sR, xR_sR, xS_sR, xN_sR, xK_sA, xR_sA, xS_sA, xN_sA, Nat.reduceAdd, Nat.reduceLeDiff, sI_sA, I_sA', sA_sA, I_sA, I_sA', nI_add, mul_nI, bI_0, bI_1, k0, hK, kb, km, ib, ix_nI, cl_nI, lt_nI, eq_nI, sub_nI, Nat.reduceEqDiff, Nat.one_ne_zero, Nat.not_lt_zero, ↓reduceIte, e1, e2, lc_refl]
theorem lw_5 {B b L i : Nat} {m : am_M} (h : LwS B b L m) (hi : i + 6 ≤ L) : LwG B b L 385 i m := by
  obtain ⟨G, hb, hK, hL⟩ := h
  obtain ⟨k0, kM, hs, -⟩ := G.ks
  have O : Op1 B 95 169 [.int (mI m b (i + 1)), .int (mI m b (i + 2))] m := op_5 G
  obtain ⟨v, m1, m2, e1, e2, G', bl⟩ := O
  have q := kq_cal e1
  have kb := (q.2 b (by omega)).1
  have ib := (q.2 b (by omega)).2 (by rw [hK])
  have km := (q.2 (B + 82) (by omega)).1
  rw [hK] at kb
  rw [kM] at km
  simp only at ib
  refine ⟨m2, ?_, G', bl⟩
  simp (disch := first | (simp (disch := omega) only [am_k_some, va_rf_some, va_rf_none, tl_some, tl_none, am_clr_int, am_clr_ref, am_clr_none, am_clr_long, am_w_nil, am_w_int, am_w_ref, am_w_long, am_w_null, am_bb_0, am_bb_1, am_bb_bI, xK_sI, xR_sI, xS_sI, xN_sI, xK_sL, xR_sL, xS_sL, xN_sL, xK_sR, xR_sR, xS_sR, xN_sR, xK_sA, xR_sA, xS_sA, xN_sA, Nat.reduceAdd, Nat.reduceLeDiff, sI_sA, I_sA', sA_sA, I_sA, I_sA', nI_add, mul_nI, bI_0, bI_1, k0, hK, kb, km, ix_nI, cl_nI]; done) | omega | assumption) only [e225_385, e225_386, e225_387, e225_388, e225_389, e225_390, e225_391, e225_392, e225_393, e225_394, e225_395, e225_396, e225_399, e225_400, e225_401, e225_402, e225_403, e225_404, e225_405, e225_406, e225_407, e225_408, e225_409, e225_410, e225_413, am_k_some, va_rf_some, va_rf_none, tl_some, tl_none, am_clr_int, am_clr_ref, am_clr_none, am_clr_long, am_w_nil, am_w_int, am_w_ref, am_w_long, am_w_null, am_bb_0, am_bb_1, am_bb_bI, xK_sI, xR_sI, xS_sI, xN_sI, xK_sL, xR_sL, xS_sL, xN_sL, xK_sR, xR_sR, xS_sR, xN_sR, xK_sA, xR_sA, xS_sA, xN_sA, Nat.reduceAdd, Nat.reduceLeDiff, sI_sA, I_sA', sA_sA, I_sA, I_sA', nI_add, mul_nI, bI_0, bI_1, k0, hK, kb, km, ib, ix_nI, cl_nI, lt_nI, eq_nI, sub_nI, Nat.reduceEqDiff, Nat.one_ne_zero, Nat.not_lt_zero, ↓reduceIte, e1, e2, lc_refl]
theorem lw_6 {B b L i : Nat} {m : am_M} (h : LwS B b L m) (hi : i + 6 ≤ L) : LwG B b L 418 i m := by
  obtain ⟨G, hb, hK, hL⟩ := h
  obtain ⟨k0, kM, hs, -⟩ := G.ks
  have O : Op1 B 96 170 [.int (mI m b (i + 1)), .int (mI m b (i + 2))] m := op_6 G
  obtain ⟨v, m1, m2, e1, e2, G', bl⟩ := O
  have q := kq_cal e1
  have kb := (q.2 b (by omega)).1
  have ib := (q.2 b (by omega)).2 (by rw [hK])
  have km := (q.2 (B + 82) (by omega)).1
  rw [hK] at kb
  rw [kM] at km
  simp only at ib
  refine ⟨m2, ?_, G', bl⟩
  simp (disch := first | (simp (disch := omega) only [am_k_some, va_rf_some, va_rf_none, tl_some, tl_none, am_clr_int, am_clr_ref, am_clr_none, am_clr_long, am_w_nil, am_w_int, am_w_ref, am_w_long, am_w_null, am_bb_0, am_bb_1, am_bb_bI, xK_sI, xR_sI, xS_sI, xN_sI, xK_sL, xR_sL, xS_sL, xN_sL, xK_sR, xR_sR, xS_sR, xN_sR, xK_sA, xR_sA, xS_sA, xN_sA, Nat.reduceAdd, Nat.reduceLeDiff, sI_sA, I_sA', sA_sA, I_sA, I_sA', nI_add, mul_nI, bI_0, bI_1, k0, hK, kb, km, ix_nI, cl_nI]; done) | omega | assumption) only [e225_418, e225_419, e225_420, e225_421, e225_422, e225_423, e225_424, e225_425, e225_426, e225_427, e225_428, e225_429, e225_432, e225_433, e225_434, e225_435, e225_436, e225_437, e225_438, e225_439, e225_440, e225_441, e225_442, e225_443, e225_446, am_k_some, va_rf_some, va_rf_none, tl_some, tl_none, am_clr_int, am_clr_ref, am_clr_none, am_clr_long, am_w_nil, am_w_int, am_w_ref, am_w_long, am_w_null, am_bb_0, am_bb_1, am_bb_bI, xK_sI, xR_sI, xS_sI, xN_sI, xK_sL, xR_sL, xS_sL, xN_sL, xK_sR, xR_sR, xS_sR, xN_sR, xK_sA, xR_sA, xS_sA, xN_sA, Nat.reduceAdd, Nat.reduceLeDiff, sI_sA, I_sA', sA_sA, I_sA, I_sA', nI_add, mul_nI, bI_0, bI_1, k0, hK, kb, km, ib, ix_nI, cl_nI, lt_nI, eq_nI, sub_nI, Nat.reduceEqDiff, Nat.one_ne_zero, Nat.not_lt_zero, ↓reduceIte, e1, e2, lc_refl]
theorem lw_7 {B b L i : Nat} {m : am_M} (h : LwS B b L m) (hi : i + 6 ≤ L) : LwG B b L 451 i m := by
  obtain ⟨G, hb, hK, hL⟩ := h
  obtain ⟨k0, kM, hs, -⟩ := G.ks
  have O : Op1 B 97 171 [.int (mI m b (i + 1)), .int (mI m b (i + 2)), .int (mI m b (i + 3))] m := op_7 G
  obtain ⟨v, m1, m2, e1, e2, G', bl⟩ := O
  have q := kq_cal e1
  have kb := (q.2 b (by omega)).1
  have ib := (q.2 b (by omega)).2 (by rw [hK])
  have km := (q.2 (B + 82) (by omega)).1
  rw [hK] at kb
  rw [kM] at km
  simp only at ib
  refine ⟨m2, ?_, G', bl⟩
  simp (disch := first | (simp (disch := omega) only [am_k_some, va_rf_some, va_rf_none, tl_some, tl_none, am_clr_int, am_clr_ref, am_clr_none, am_clr_long, am_w_nil, am_w_int, am_w_ref, am_w_long, am_w_null, am_bb_0, am_bb_1, am_bb_bI, xK_sI, xR_sI, xS_sI, xN_sI, xK_sL, xR_sL, xS_sL, xN_sL, xK_sR, xR_sR, xS_sR, xN_sR, xK_sA, xR_sA, xS_sA, xN_sA, Nat.reduceAdd, Nat.reduceLeDiff, sI_sA, I_sA', sA_sA, I_sA, I_sA', nI_add, mul_nI, bI_0, bI_1, k0, hK, kb, km, ix_nI, cl_nI]; done) | omega | assumption) only [e225_451, e225_452, e225_453, e225_454, e225_455, e225_456, e225_457, e225_458, e225_459, e225_460, e225_461, e225_462, e225_463, e225_464, e225_465, e225_466, e225_467, e225_470, e225_471, e225_472, e225_473, e225_474, e225_475, e225_476, e225_477, e225_478, e225_479, e225_480, e225_481, e225_482, e225_483, e225_484, e225_485, e225_486, e225_489, am_k_some, va_rf_some, va_rf_none, tl_some, tl_none, am_clr_int, am_clr_ref, am_clr_none, am_clr_long, am_w_nil, am_w_int, am_w_ref, am_w_long, am_w_null, am_bb_0, am_bb_1, am_bb_bI, xK_sI, xR_sI, xS_sI, xN_sI, xK_sL, xR_sL, xS_sL, xN_sL, xK_sR, xR_sR, xS_sR, xN_sR, xK_sA, xR_sA, xS_sA, xN_sA, Nat.reduceAdd, Nat.reduceLeDiff, sI_sA, I_sA', sA_sA, I_sA, I_sA', nI_add, mul_nI, bI_0, bI_1, k0, hK, kb, km, ib, ix_nI, cl_nI, lt_nI, eq_nI, sub_nI, Nat.reduceEqDiff, Nat.one_ne_zero, Nat.not_lt_zero, ↓reduceIte, e1, e2, lc_refl]
theorem lw_8 {B b L i : Nat} {m : am_M} (h : LwS B b L m) (hi : i + 6 ≤ L) : LwG B b L 494 i m := by
  obtain ⟨G, hb, hK, hL⟩ := h
  obtain ⟨k0, kM, hs, -⟩ := G.ks
  have O : Op1 B 98 172 [.int (mI m b (i + 1))] m := op_8 G
  obtain ⟨v, m1, m2, e1, e2, G', bl⟩ := O
  have q := kq_cal e1
  have kb := (q.2 b (by omega)).1
  have ib := (q.2 b (by omega)).2 (by rw [hK])
  have km := (q.2 (B + 82) (by omega)).1
  rw [hK] at kb
  rw [kM] at km
  simp only at ib
  refine ⟨m2, ?_, G', bl⟩
  simp (disch := first | (simp (disch := omega) only [am_k_some, va_rf_some, va_rf_none, tl_some, tl_none, am_clr_int, am_clr_ref, am_clr_none, am_clr_long, am_w_nil, am_w_int, am_w_ref, am_w_long, am_w_null, am_bb_0, am_bb_1, am_bb_bI, xK_sI, xR_sI, xS_sI, xN_sI, xK_sL, xR_sL, xS_sL, xN_sL, xK_sR, xR_sR, xS_sR, xN_sR, xK_sA, xR_sA, xS_sA, xN_sA, Nat.reduceAdd, Nat.reduceLeDiff, sI_sA, I_sA', sA_sA, I_sA, I_sA', nI_add, mul_nI, bI_0, bI_1, k0, hK, kb, km, ix_nI, cl_nI]; done) | omega | assumption) only [e225_494, e225_495, e225_496, e225_497, e225_498, e225_499, e225_500, e225_503, e225_504, e225_505, e225_506, e225_507, e225_508, e225_509, e225_512, am_k_some, va_rf_some, va_rf_none, tl_some, tl_none, am_clr_int, am_clr_ref, am_clr_none, am_clr_long, am_w_nil, am_w_int, am_w_ref, am_w_long, am_w_null, am_bb_0, am_bb_1, am_bb_bI, xK_sI, xR_sI, xS_sI, xN_sI, xK_sL, xR_sL, xS_sL, xN_sL, xK_sR, xR_sR, xS_sR, xN_sR, xK_sA, xR_sA, xS_sA, xN_sA, Nat.reduceAdd, Nat.reduceLeDiff, sI_sA, I_sA', sA_sA, I_sA, I_sA', nI_add, mul_nI, bI_0, bI_1, k0, hK, kb, km, ib, ix_nI, cl_nI, lt_nI, eq_nI, sub_nI, Nat.reduceEqDiff, Nat.one_ne_zero, Nat.not_lt_zero, ↓reduceIte, e1, e2, lc_refl]
theorem lw_9 {B b L i : Nat} {m : am_M} (h : LwS B b L m) (hi : i + 6 ≤ L) : LwG B b L 517 i m := by
  obtain ⟨G, hb, hK, hL⟩ := h
  obtain ⟨k0, kM, hs, -⟩ := G.ks
  have O : Op1 B 99 173 [.int (mI m b (i + 1)), .int (mI m b (i + 2))] m := op_9 G
  obtain ⟨v, m1, m2, e1, e2, G', bl⟩ := O
  have q := kq_cal e1
  have kb := (q.2 b (by omega)).1
  have ib := (q.2 b (by omega)).2 (by rw [hK])
  have km := (q.2 (B + 82) (by omega)).1
  rw [hK] at kb
  rw [kM] at km
  simp only at ib
  refine ⟨m2, ?_, G', bl⟩
  simp (disch := first | (simp (disch := omega) only [am_k_some, va_rf_some, va_rf_none, tl_some, tl_none, am_clr_int, am_clr_ref, am_clr_none, am_clr_long, am_w_nil, am_w_int, am_w_ref, am_w_long, am_w_null, am_bb_0, am_bb_1, am_bb_bI, xK_sI, xR_sI, xS_sI, xN_sI, xK_sL, xR_sL, xS_sL, xN_sL, xK_sR, xR_sR, xS_sR, xN_sR, xK_sA, xR_sA, xS_sA, xN_sA, Nat.reduceAdd, Nat.reduceLeDiff, sI_sA, I_sA', sA_sA, I_sA, I_sA', nI_add, mul_nI, bI_0, bI_1, k0, hK, kb, km, ix_nI, cl_nI]; done) | omega | assumption) only [e225_517, e225_518, e225_519, e225_520, e225_521, e225_522, e225_523, e225_524, e225_525, e225_526, e225_527, e225_528, e225_531, e225_532, e225_533, e225_534, e225_535, e225_536, e225_537, e225_538, e225_539, e225_540, e225_541, e225_542, e225_545, am_k_some, va_rf_some, va_rf_none, tl_some, tl_none, am_clr_int, am_clr_ref, am_clr_none, am_clr_long, am_w_nil, am_w_int, am_w_ref, am_w_long, am_w_null, am_bb_0, am_bb_1, am_bb_bI, xK_sI, xR_sI, xS_sI, xN_sI, xK_sL, xR_sL, xS_sL, xN_sL, xK_sR, xR_sR, xS_sR, xN_sR, xK_sA, xR_sA, xS_sA, xN_sA, Nat.reduceAdd, Nat.reduceLeDiff, sI_sA, I_sA', sA_sA, I_sA, I_sA', nI_add, mul_nI, bI_0, bI_1, k0, hK, kb, km, ib, ix_nI, cl_nI, lt_nI, eq_nI, sub_nI, Nat.reduceEqDiff, Nat.one_ne_zero, Nat.not_lt_zero, ↓reduceIte, e1, e2, lc_refl]
theorem lw_10 {B b L i : Nat} {m : am_M} (h : LwS B b L m) (hi : i + 6 ≤ L) : LwG B b L 550 i m := by
  obtain ⟨G, hb, hK, hL⟩ := h
  obtain ⟨k0, kM, hs, -⟩ := G.ks
  have O : Op1 B 100 174 [.int (mI m b (i + 1)), .int (mI m b (i + 2)), .int (mI m b (i + 3)), .int (mI m b (i + 4)), .int (mI m b (i + 5))] m := op_10 G
  obtain ⟨v, m1, m2, e1, e2, G', bl⟩ := O
  have q := kq_cal e1
  have kb := (q.2 b (by omega)).1
  have ib := (q.2 b (by omega)).2 (by rw [hK])
  have km := (q.2 (B + 82) (by omega)).1
  rw [hK] at kb
  rw [kM] at km
  simp only at ib
  refine ⟨m2, ?_, G', bl⟩
  simp (disch := first | (simp (disch := omega) only [am_k_some, va_rf_some, va_rf_none, tl_some, tl_none, am_clr_int, am_clr_ref, am_clr_none, am_clr_long, am_w_nil, am_w_int, am_w_ref, am_w_long, am_w_null, am_bb_0, am_bb_1, am_bb_bI, xK_sI, xR_sI, xS_sI, xN_sI, xK_sL, xR_sL, xS_sL, xN_sL, xK_sR, xR_sR, xS_sR, xN_sR, xK_sA, xR_sA, xS_sA, xN_sA, Nat.reduceAdd, Nat.reduceLeDiff, sI_sA, I_sA', sA_sA, I_sA, I_sA', nI_add, mul_nI, bI_0, bI_1, k0, hK, kb, km, ix_nI, cl_nI]; done) | omega | assumption) only [e225_550, e225_551, e225_552, e225_553, e225_554, e225_555, e225_556, e225_557, e225_558, e225_559, e225_560, e225_561, e225_562, e225_563, e225_564, e225_565, e225_566, e225_567, e225_568, e225_569, e225_570, e225_571, e225_572, e225_573, e225_574, e225_575, e225_576, e225_579, e225_580, e225_581, e225_582, e225_583, e225_584, e225_585, e225_586, e225_587, e225_588, e225_589, e225_590, e225_591, e225_592, e225_593, e225_594, e225_595, e225_596, e225_597, e225_598, e225_599, e225_600, e225_601, e225_602, e225_603, e225_604, e225_605, e225_608, am_k_some, va_rf_some, va_rf_none, tl_some, tl_none, am_clr_int, am_clr_ref, am_clr_none, am_clr_long, am_w_nil, am_w_int, am_w_ref, am_w_long, am_w_null, am_bb_0, am_bb_1, am_bb_bI, xK_sI, xR_sI, xS_sI, xN_sI, xK_sL, xR_sL, xS_sL, xN_sL, xK_sR, xR_sR, xS_sR, xN_sR, xK_sA, xR_sA, xS_sA, xN_sA, Nat.reduceAdd, Nat.reduceLeDiff, sI_sA, I_sA', sA_sA, I_sA, I_sA', nI_add, mul_nI, bI_0, bI_1, k0, hK, kb, km, ib, ix_nI, cl_nI, lt_nI, eq_nI, sub_nI, Nat.reduceEqDiff, Nat.one_ne_zero, Nat.not_lt_zero, ↓reduceIte, e1, e2, lc_refl]
theorem lw_11 {B b L i : Nat} {m : am_M} (h : LwS B b L m) (hi : i + 6 ≤ L) : LwG B b L 613 i m := by
  obtain ⟨G, hb, hK, hL⟩ := h
  obtain ⟨k0, kM, hs, -⟩ := G.ks
  have O : Op1 B 101 175 [.int (mI m b (i + 1)), .int (mI m b (i + 2))] m := op_11 G
  obtain ⟨v, m1, m2, e1, e2, G', bl⟩ := O
  have q := kq_cal e1
  have kb := (q.2 b (by omega)).1
  have ib := (q.2 b (by omega)).2 (by rw [hK])
  have km := (q.2 (B + 82) (by omega)).1
  rw [hK] at kb
  rw [kM] at km
  simp only at ib
  refine ⟨m2, ?_, G', bl⟩
  simp (disch := first | (simp (disch := omega) only [am_k_some, va_rf_some, va_rf_none, tl_some, tl_none, am_clr_int, am_clr_ref, am_clr_none, am_clr_long, am_w_nil, am_w_int, am_w_ref, am_w_long, am_w_null, am_bb_0, am_bb_1, am_bb_bI, xK_sI, xR_sI, xS_sI, xN_sI, xK_sL, xR_sL, xS_sL, xN_sL, xK_sR, xR_sR, xS_sR, xN_sR, xK_sA, xR_sA, xS_sA, xN_sA, Nat.reduceAdd, Nat.reduceLeDiff, sI_sA, I_sA', sA_sA, I_sA, I_sA', nI_add, mul_nI, bI_0, bI_1, k0, hK, kb, km, ix_nI, cl_nI]; done) | omega | assumption) only [e225_613, e225_614, e225_615, e225_616, e225_617, e225_618, e225_619, e225_620, e225_621, e225_622, e225_623, e225_624, e225_627, e225_628, e225_629, e225_630, e225_631, e225_632, e225_633, e225_634, e225_635, e225_636, e225_637, e225_638, e225_641, am_k_some, va_rf_some, va_rf_none, tl_some, tl_none, am_clr_int, am_clr_ref, am_clr_none, am_clr_long, am_w_nil, am_w_int, am_w_ref, am_w_long, am_w_null, am_bb_0, am_bb_1, am_bb_bI, xK_sI, xR_sI, xS_sI, xN_sI, xK_sL, xR_sL, xS_sL, xN_sL, xK_sR, xR_sR, xS_sR, xN_sR, xK_sA, xR_sA, xS_sA, xN_sA, Nat.reduceAdd, Nat.reduceLeDiff, sI_sA, I_sA', sA_sA, I_sA, I_sA', nI_add, mul_nI, bI_0, bI_1, k0, hK, kb, km, ib, ix_nI, cl_nI, lt_nI, eq_nI, sub_nI, Nat.reduceEqDiff, Nat.one_ne_zero, Nat.not_lt_zero, ↓reduceIte, e1, e2, lc_refl]
theorem lw_12 {B b L i : Nat} {m : am_M} (h : LwS B b L m) (hi : i + 6 ≤ L) : LwG B b L 646 i m := by
  obtain ⟨G, hb, hK, hL⟩ := h
  obtain ⟨k0, kM, hs, -⟩ := G.ks
  have O : Op1 B 102 176 [.int (mI m b (i + 1))] m := op_12 G
  obtain ⟨v, m1, m2, e1, e2, G', bl⟩ := O
  have q := kq_cal e1
  have kb := (q.2 b (by omega)).1
  have ib := (q.2 b (by omega)).2 (by rw [hK])
  have km := (q.2 (B + 82) (by omega)).1
  rw [hK] at kb
  rw [kM] at km
  simp only at ib
  refine ⟨m2, ?_, G', bl⟩
  simp (disch := first | (simp (disch := omega) only [am_k_some, va_rf_some, va_rf_none, tl_some, tl_none, am_clr_int, am_clr_ref, am_clr_none, am_clr_long, am_w_nil, am_w_int, am_w_ref, am_w_long, am_w_null, am_bb_0, am_bb_1, am_bb_bI, xK_sI, xR_sI, xS_sI, xN_sI, xK_sL, xR_sL, xS_sL, xN_sL, xK_sR, xR_sR, xS_sR, xN_sR, xK_sA, xR_sA, xS_sA, xN_sA, Nat.reduceAdd, Nat.reduceLeDiff, sI_sA, I_sA', sA_sA, I_sA, I_sA', nI_add, mul_nI, bI_0, bI_1, k0, hK, kb, km, ix_nI, cl_nI]; done) | omega | assumption) only [e225_646, e225_647, e225_648, e225_649, e225_650, e225_651, e225_652, e225_655, e225_656, e225_657, e225_658, e225_659, e225_660, e225_661, e225_664, am_k_some, va_rf_some, va_rf_none, tl_some, tl_none, am_clr_int, am_clr_ref, am_clr_none, am_clr_long, am_w_nil, am_w_int, am_w_ref, am_w_long, am_w_null, am_bb_0, am_bb_1, am_bb_bI, xK_sI, xR_sI, xS_sI, xN_sI, xK_sL, xR_sL, xS_sL, xN_sL, xK_sR, xR_sR, xS_sR, xN_sR, xK_sA, xR_sA, xS_sA, xN_sA, Nat.reduceAdd, Nat.reduceLeDiff, sI_sA, I_sA', sA_sA, I_sA, I_sA', nI_add, mul_nI, bI_0, bI_1, k0, hK, kb, km, ib, ix_nI, cl_nI, lt_nI, eq_nI, sub_nI, Nat.reduceEqDiff, Nat.one_ne_zero, Nat.not_lt_zero, ↓reduceIte, e1, e2, lc_refl]
theorem lw_13 {B b L i : Nat} {m : am_M} (h : LwS B b L m) (hi : i + 6 ≤ L) : LwG B b L 669 i m := by
  obtain ⟨G, hb, hK, hL⟩ := h
  obtain ⟨k0, kM, hs, -⟩ := G.ks
  have O : Op1 B 103 177 [.int (mI m b (i + 1))] m := op_13 G
  obtain ⟨v, m1, m2, e1, e2, G', bl⟩ := O
  have q := kq_cal e1
  have kb := (q.2 b (by omega)).1
  have ib := (q.2 b (by omega)).2 (by rw [hK])
  have km := (q.2 (B + 82) (by omega)).1
  rw [hK] at kb
  rw [kM] at km
  simp only at ib
  refine ⟨m2, ?_, G', bl⟩
  simp (disch := first | (simp (disch := omega) only [am_k_some, va_rf_some, va_rf_none, tl_some, tl_none, am_clr_int, am_clr_ref, am_clr_none, am_clr_long, am_w_nil, am_w_int, am_w_ref, am_w_long, am_w_null, am_bb_0, am_bb_1, am_bb_bI, xK_sI, xR_sI, xS_sI, xN_sI, xK_sL, xR_sL, xS_sL, xN_sL, xK_sR, xR_sR, xS_sR, xN_sR, xK_sA, xR_sA, xS_sA, xN_sA, Nat.reduceAdd, Nat.reduceLeDiff, sI_sA, I_sA', sA_sA, I_sA, I_sA', nI_add, mul_nI, bI_0, bI_1, k0, hK, kb, km, ix_nI, cl_nI]; done) | omega | assumption) only [e225_669, e225_670, e225_671, e225_672, e225_673, e225_674, e225_675, e225_678, e225_679, e225_680, e225_681, e225_682, e225_683, e225_684, e225_687, am_k_some, va_rf_some, va_rf_none, tl_some, tl_none, am_clr_int, am_clr_ref, am_clr_none, am_clr_long, am_w_nil, am_w_int, am_w_ref, am_w_long, am_w_null, am_bb_0, am_bb_1, am_bb_bI, xK_sI, xR_sI, xS_sI, xN_sI, xK_sL, xR_sL, xS_sL, xN_sL, xK_sR, xR_sR, xS_sR, xN_sR, xK_sA, xR_sA, xS_sA, xN_sA, Nat.reduceAdd, Nat.reduceLeDiff, sI_sA, I_sA', sA_sA, I_sA, I_sA', nI_add, mul_nI, bI_0, bI_1, k0, hK, kb, km, ib, ix_nI, cl_nI, lt_nI, eq_nI, sub_nI, Nat.reduceEqDiff, Nat.one_ne_zero, Nat.not_lt_zero, ↓reduceIte, e1, e2, lc_refl]
theorem lw_14 {B b L i : Nat} {m : am_M} (h : LwS B b L m) (hi : i + 6 ≤ L) : LwG B b L 692 i m := by
  obtain ⟨G, hb, hK, hL⟩ := h
  obtain ⟨k0, kM, hs, -⟩ := G.ks
  have O : Op1 B 104 178 [] m := op_14 G
  obtain ⟨v, m1, m2, e1, e2, G', bl⟩ := O
  have q := kq_cal e1
  have kb := (q.2 b (by omega)).1
  have ib := (q.2 b (by omega)).2 (by rw [hK])
  have km := (q.2 (B + 82) (by omega)).1
  rw [hK] at kb
  rw [kM] at km
  simp only at ib
  refine ⟨m2, ?_, G', bl⟩
  simp (disch := first | (simp (disch := omega) only [am_k_some, va_rf_some, va_rf_none, tl_some, tl_none, am_clr_int, am_clr_ref, am_clr_none, am_clr_long, am_w_nil, am_w_int, am_w_ref, am_w_long, am_w_null, am_bb_0, am_bb_1, am_bb_bI, xK_sI, xR_sI, xS_sI, xN_sI, xK_sL, xR_sL, xS_sL, xN_sL, xK_sR, xR_sR, xS_sR, xN_sR, xK_sA, xR_sA, xS_sA, xN_sA, Nat.reduceAdd, Nat.reduceLeDiff, sI_sA, I_sA', sA_sA, I_sA, I_sA', nI_add, mul_nI, bI_0, bI_1, k0, hK, kb, km, ix_nI, cl_nI]; done) | omega | assumption) only [e225_692, e225_693, e225_696, e225_697, e225_700, am_k_some, va_rf_some, va_rf_none, tl_some, tl_none, am_clr_int, am_clr_ref, am_clr_none, am_clr_long, am_w_nil, am_w_int, am_w_ref, am_w_long, am_w_null, am_bb_0, am_bb_1, am_bb_bI, xK_sI, xR_sI, xS_sI, xN_sI, xK_sL, xR_sL, xS_sL, xN_sL, xK_sR, xR_sR, xS_sR, xN_sR, xK_sA, xR_sA, xS_sA, xN_sA, Nat.reduceAdd, Nat.reduceLeDiff, sI_sA, I_sA', sA_sA, I_sA, I_sA', nI_add, mul_nI, bI_0, bI_1, k0, hK, kb, km, ib, ix_nI, cl_nI, lt_nI, eq_nI, sub_nI, Nat.reduceEqDiff, Nat.one_ne_zero, Nat.not_lt_zero, ↓reduceIte, e1, e2, lc_refl]
theorem lw_15 {B b L i : Nat} {m : am_M} (h : LwS B b L m) (hi : i + 6 ≤ L) : LwG B b L 705 i m := by
  obtain ⟨G, hb, hK, hL⟩ := h
  obtain ⟨k0, kM, hs, -⟩ := G.ks
  have O : Op1 B 105 180 [.int (mI m b (i + 1)), .int (mI m b (i + 2))] m := op_15 G
  obtain ⟨v, m1, m2, e1, e2, G', bl⟩ := O
  have q := kq_cal e1
  have kb := (q.2 b (by omega)).1
  have ib := (q.2 b (by omega)).2 (by rw [hK])
  have km := (q.2 (B + 82) (by omega)).1
  rw [hK] at kb
  rw [kM] at km
  simp only at ib
  refine ⟨m2, ?_, G', bl⟩
  simp (disch := first | (simp (disch := omega) only [am_k_some, va_rf_some, va_rf_none, tl_some, tl_none, am_clr_int, am_clr_ref, am_clr_none, am_clr_long, am_w_nil, am_w_int, am_w_ref, am_w_long, am_w_null, am_bb_0, am_bb_1, am_bb_bI, xK_sI, xR_sI, xS_sI, xN_sI, xK_sL, xR_sL, xS_sL, xN_sL, xK_sR, xR_sR, xS_sR, xN_sR, xK_sA, xR_sA, xS_sA, xN_sA, Nat.reduceAdd, Nat.reduceLeDiff, sI_sA, I_sA', sA_sA, I_sA, I_sA', nI_add, mul_nI, bI_0, bI_1, k0, hK, kb, km, ix_nI, cl_nI]; done) | omega | assumption) only [e225_705, e225_706, e225_707, e225_708, e225_709, e225_710, e225_711, e225_712, e225_713, e225_714, e225_715, e225_716, e225_719, e225_720, e225_721, e225_722, e225_723, e225_724, e225_725, e225_726, e225_727, e225_728, e225_729, e225_730, e225_733, am_k_some, va_rf_some, va_rf_none, tl_some, tl_none, am_clr_int, am_clr_ref, am_clr_none, am_clr_long, am_w_nil, am_w_int, am_w_ref, am_w_long, am_w_null, am_bb_0, am_bb_1, am_bb_bI, xK_sI, xR_sI, xS_sI, xN_sI, xK_sL, xR_sL, xS_sL, xN_sL, xK_sR, xR_sR, xS_sR, xN_sR, xK_sA, xR_sA, xS_sA, xN_sA, Nat.reduceAdd, Nat.reduceLeDiff, sI_sA, I_sA', sA_sA, I_sA, I_sA', nI_add, mul_nI, bI_0, bI_1, k0, hK, kb, km, ib, ix_nI, cl_nI, lt_nI, eq_nI, sub_nI, Nat.reduceEqDiff, Nat.one_ne_zero, Nat.not_lt_zero, ↓reduceIte, e1, e2, lc_refl]
theorem lw_16 {B b L i : Nat} {m : am_M} (h : LwS B b L m) (hi : i + 6 ≤ L) : LwG B b L 738 i m := by
  obtain ⟨G, hb, hK, hL⟩ := h
  obtain ⟨k0, kM, hs, -⟩ := G.ks
  have O : Op1 B 106 184 [.int (mI m b (i + 1)), .int (mI m b (i + 2)), .int (mI m b (i + 3))] m := op_16 G
  obtain ⟨v, m1, m2, e1, e2, G', bl⟩ := O
  have q := kq_cal e1
  have kb := (q.2 b (by omega)).1
  have ib := (q.2 b (by omega)).2 (by rw [hK])
  have km := (q.2 (B + 82) (by omega)).1
  rw [hK] at kb
  rw [kM] at km
  simp only at ib
  refine ⟨m2, ?_, G', bl⟩
  simp (disch := first | (simp (disch := omega) only [am_k_some, va_rf_some, va_rf_none, tl_some, tl_none, am_clr_int, am_clr_ref, am_clr_none, am_clr_long, am_w_nil, am_w_int, am_w_ref, am_w_long, am_w_null, am_bb_0, am_bb_1, am_bb_bI, xK_sI, xR_sI, xS_sI, xN_sI, xK_sL, xR_sL, xS_sL, xN_sL, xK_sR, xR_sR, xS_sR, xN_sR, xK_sA, xR_sA, xS_sA, xN_sA, Nat.reduceAdd, Nat.reduceLeDiff, sI_sA, I_sA', sA_sA, I_sA, I_sA', nI_add, mul_nI, bI_0, bI_1, k0, hK, kb, km, ix_nI, cl_nI]; done) | omega | assumption) only [e225_738, e225_739, e225_740, e225_741, e225_742, e225_743, e225_744, e225_745, e225_746, e225_747, e225_748, e225_749, e225_750, e225_751, e225_752, e225_753, e225_754, e225_757, e225_758, e225_759, e225_760, e225_761, e225_762, e225_763, e225_764, e225_765, e225_766, e225_767, e225_768, e225_769, e225_770, e225_771, e225_772, e225_773, e225_776, am_k_some, va_rf_some, va_rf_none, tl_some, tl_none, am_clr_int, am_clr_ref, am_clr_none, am_clr_long, am_w_nil, am_w_int, am_w_ref, am_w_long, am_w_null, am_bb_0, am_bb_1, am_bb_bI, xK_sI, xR_sI, xS_sI, xN_sI, xK_sL, xR_sL, xS_sL, xN_sL, xK_sR, xR_sR, xS_sR, xN_sR, xK_sA, xR_sA, xS_sA, xN_sA, Nat.reduceAdd, Nat.reduceLeDiff, sI_sA, I_sA', sA_sA, I_sA, I_sA', nI_add, mul_nI, bI_0, bI_1, k0, hK, kb, km, ib, ix_nI, cl_nI, lt_nI, eq_nI, sub_nI, Nat.reduceEqDiff, Nat.one_ne_zero, Nat.not_lt_zero, ↓reduceIte, e1, e2, lc_refl]
theorem lw_17 {B b L i : Nat} {m : am_M} (h : LwS B b L m) (hi : i + 6 ≤ L) : LwG B b L 781 i m := by
  obtain ⟨G, hb, hK, hL⟩ := h
  obtain ⟨k0, kM, hs, -⟩ := G.ks
  have O : Op1 B 107 185 [.int (mI m b (i + 1)), .int (mI m b (i + 2))] m := op_17 G
  obtain ⟨v, m1, m2, e1, e2, G', bl⟩ := O
  have q := kq_cal e1
  have kb := (q.2 b (by omega)).1
  have ib := (q.2 b (by omega)).2 (by rw [hK])
  have km := (q.2 (B + 82) (by omega)).1
  rw [hK] at kb
  rw [kM] at km
  simp only at ib
  refine ⟨m2, ?_, G', bl⟩
  simp (disch := first | (simp (disch := omega) only [am_k_some, va_rf_some, va_rf_none, tl_some, tl_none, am_clr_int, am_clr_ref, am_clr_none, am_clr_long, am_w_nil, am_w_int, am_w_ref, am_w_long, am_w_null, am_bb_0, am_bb_1, am_bb_bI, xK_sI, xR_sI, xS_sI, xN_sI, xK_sL, xR_sL, xS_sL, xN_sL, xK_sR, xR_sR, xS_sR, xN_sR, xK_sA, xR_sA, xS_sA, xN_sA, Nat.reduceAdd, Nat.reduceLeDiff, sI_sA, I_sA', sA_sA, I_sA, I_sA', nI_add, mul_nI, bI_0, bI_1, k0, hK, kb, km, ix_nI, cl_nI]; done) | omega | assumption) only [e225_781, e225_782, e225_783, e225_784, e225_785, e225_786, e225_787, e225_788, e225_789, e225_790, e225_791, e225_792, e225_795, e225_796, e225_797, e225_798, e225_799, e225_800, e225_801, e225_802, e225_803, e225_804, e225_805, e225_806, e225_809, am_k_some, va_rf_some, va_rf_none, tl_some, tl_none, am_clr_int, am_clr_ref, am_clr_none, am_clr_long, am_w_nil, am_w_int, am_w_ref, am_w_long, am_w_null, am_bb_0, am_bb_1, am_bb_bI, xK_sI, xR_sI, xS_sI, xN_sI, xK_sL, xR_sL, xS_sL, xN_sL, xK_sR, xR_sR, xS_sR, xN_sR, xK_sA, xR_sA, xS_sA, xN_sA, Nat.reduceAdd, Nat.reduceLeDiff, sI_sA, I_sA', sA_sA, I_sA, I_sA', nI_add, mul_nI, bI_0, bI_1, k0, hK, kb, km, ib, ix_nI, cl_nI, lt_nI, eq_nI, sub_nI, Nat.reduceEqDiff, Nat.one_ne_zero, Nat.not_lt_zero, ↓reduceIte, e1, e2, lc_refl]
theorem lw_18 {B b L i : Nat} {m : am_M} (h : LwS B b L m) (hi : i + 6 ≤ L) : LwG B b L 814 i m := by
  obtain ⟨G, hb, hK, hL⟩ := h
  obtain ⟨k0, kM, hs, -⟩ := G.ks
  have O : Op1 B 108 186 [] m := op_18 G
  obtain ⟨v, m1, m2, e1, e2, G', bl⟩ := O
  have q := kq_cal e1
  have kb := (q.2 b (by omega)).1
  have ib := (q.2 b (by omega)).2 (by rw [hK])
  have km := (q.2 (B + 82) (by omega)).1
  rw [hK] at kb
  rw [kM] at km
  simp only at ib
  refine ⟨m2, ?_, G', bl⟩
  simp (disch := first | (simp (disch := omega) only [am_k_some, va_rf_some, va_rf_none, tl_some, tl_none, am_clr_int, am_clr_ref, am_clr_none, am_clr_long, am_w_nil, am_w_int, am_w_ref, am_w_long, am_w_null, am_bb_0, am_bb_1, am_bb_bI, xK_sI, xR_sI, xS_sI, xN_sI, xK_sL, xR_sL, xS_sL, xN_sL, xK_sR, xR_sR, xS_sR, xN_sR, xK_sA, xR_sA, xS_sA, xN_sA, Nat.reduceAdd, Nat.reduceLeDiff, sI_sA, I_sA', sA_sA, I_sA, I_sA', nI_add, mul_nI, bI_0, bI_1, k0, hK, kb, km, ix_nI, cl_nI]; done) | omega | assumption) only [e225_814, e225_815, e225_818, e225_819, e225_822, am_k_some, va_rf_some, va_rf_none, tl_some, tl_none, am_clr_int, am_clr_ref, am_clr_none, am_clr_long, am_w_nil, am_w_int, am_w_ref, am_w_long, am_w_null, am_bb_0, am_bb_1, am_bb_bI, xK_sI, xR_sI, xS_sI, xN_sI, xK_sL, xR_sL, xS_sL, xN_sL, xK_sR, xR_sR, xS_sR, xN_sR, xK_sA, xR_sA, xS_sA, xN_sA, Nat.reduceAdd, Nat.reduceLeDiff, sI_sA, I_sA', sA_sA, I_sA, I_sA', nI_add, mul_nI, bI_0, bI_1, k0, hK, kb, km, ib, ix_nI, cl_nI, lt_nI, eq_nI, sub_nI, Nat.reduceEqDiff, Nat.one_ne_zero, Nat.not_lt_zero, ↓reduceIte, e1, e2, lc_refl]
theorem lw_19 {B b L i : Nat} {m : am_M} (h : LwS B b L m) (hi : i + 6 ≤ L) : LwG B b L 827 i m := by
  obtain ⟨G, hb, hK, hL⟩ := h
  obtain ⟨k0, kM, hs, -⟩ := G.ks
  have O : Op1 B 109 187 [] m := op_19 G
  obtain ⟨v, m1, m2, e1, e2, G', bl⟩ := O
  have q := kq_cal e1
  have kb := (q.2 b (by omega)).1
  have ib := (q.2 b (by omega)).2 (by rw [hK])
  have km := (q.2 (B + 82) (by omega)).1
  rw [hK] at kb
  rw [kM] at km
  simp only at ib
  refine ⟨m2, ?_, G', bl⟩
  simp (disch := first | (simp (disch := omega) only [am_k_some, va_rf_some, va_rf_none, tl_some, tl_none, am_clr_int, am_clr_ref, am_clr_none, am_clr_long, am_w_nil, am_w_int, am_w_ref, am_w_long, am_w_null, am_bb_0, am_bb_1, am_bb_bI, xK_sI, xR_sI, xS_sI, xN_sI, xK_sL, xR_sL, xS_sL, xN_sL, xK_sR, xR_sR, xS_sR, xN_sR, xK_sA, xR_sA, xS_sA, xN_sA, Nat.reduceAdd, Nat.reduceLeDiff, sI_sA, I_sA', sA_sA, I_sA, I_sA', nI_add, mul_nI, bI_0, bI_1, k0, hK, kb, km, ix_nI, cl_nI]; done) | omega | assumption) only [e225_827, e225_828, e225_831, e225_832, e225_835, am_k_some, va_rf_some, va_rf_none, tl_some, tl_none, am_clr_int, am_clr_ref, am_clr_none, am_clr_long, am_w_nil, am_w_int, am_w_ref, am_w_long, am_w_null, am_bb_0, am_bb_1, am_bb_bI, xK_sI, xR_sI, xS_sI, xN_sI, xK_sL, xR_sL, xS_sL, xN_sL, xK_sR, xR_sR, xS_sR, xN_sR, xK_sA, xR_sA, xS_sA, xN_sA, Nat.reduceAdd, Nat.reduceLeDiff, sI_sA, I_sA', sA_sA, I_sA, I_sA', nI_add, mul_nI, bI_0, bI_1, k0, hK, kb, km, ib, ix_nI, cl_nI, lt_nI, eq_nI, sub_nI, Nat.reduceEqDiff, Nat.one_ne_zero, Nat.not_lt_zero, ↓reduceIte, e1, e2, lc_refl]
theorem lw_20 {B b L i : Nat} {m : am_M} (h : LwS B b L m) (hi : i + 6 ≤ L) : LwG B b L 840 i m := by
  obtain ⟨G, hb, hK, hL⟩ := h
  obtain ⟨k0, kM, hs, -⟩ := G.ks
  have O : Op1 B 110 188 [.int (mI m b (i + 1)), .long (((mI m b (i + 2)).toInt64 <<< ((nI 32).toInt64 &&& 63)) ||| ((mI m b (i + 3)).toInt64 &&& 4294967295))] m := op_20 G
  obtain ⟨v, m1, m2, e1, e2, G', bl⟩ := O
  have q := kq_cal e1
  have kb := (q.2 b (by omega)).1
  have ib := (q.2 b (by omega)).2 (by rw [hK])
  have km := (q.2 (B + 82) (by omega)).1
  rw [hK] at kb
  rw [kM] at km
  simp only at ib
  refine ⟨m2, ?_, G', bl⟩
  simp (disch := first | (simp (disch := omega) only [am_k_some, va_rf_some, va_rf_none, tl_some, tl_none, am_clr_int, am_clr_ref, am_clr_none, am_clr_long, am_w_nil, am_w_int, am_w_ref, am_w_long, am_w_null, am_bb_0, am_bb_1, am_bb_bI, xK_sI, xR_sI, xS_sI, xN_sI, xK_sL, xR_sL, xS_sL, xN_sL, xK_sR, xR_sR, xS_sR, xN_sR, xK_sA, xR_sA, xS_sA, xN_sA, Nat.reduceAdd, Nat.reduceLeDiff, sI_sA, I_sA', sA_sA, I_sA, I_sA', nI_add, mul_nI, bI_0, bI_1, k0, hK, kb, km, ix_nI, cl_nI]; done) | omega | assumption) only [e225_840, e225_841, e225_842, e225_843, e225_844, e225_845, e225_846, e225_847, e225_848, e225_849, e225_850, e225_851, e225_852, e225_854, e225_855, e225_856, e225_857, e225_858, e225_859, e225_860, e225_861, e225_864, e225_865, e225_866, e225_869, e225_870, e225_871, e225_872, e225_873, e225_874, e225_875, e225_876, e225_877, e225_878, e225_879, e225_880, e225_881, e225_883, e225_884, e225_885, e225_886, e225_887, e225_888, e225_889, e225_890, e225_893, e225_894, e225_895, e225_898, am_k_some, va_rf_some, va_rf_none, tl_some, tl_none, am_clr_int, am_clr_ref, am_clr_none, am_clr_long, am_w_nil, am_w_int, am_w_ref, am_w_long, am_w_null, am_bb_0, am_bb_1, am_bb_bI, xK_sI, xR_sI, xS_sI, xN_sI, xK_sL, xR_sL, xS_sL, xN_sL, xK_sR, xR_sR, xS_sR, xN_sR, xK_sA, xR_sA, xS_sA, xN_sA, Nat.reduceAdd, Nat.reduceLeDiff, sI_sA, I_sA', sA_sA, I_sA, I_sA', nI_add, mul_nI, bI_0, bI_1, k0, hK, kb, km, ib, ix_nI, cl_nI, lt_nI, eq_nI, sub_nI, Nat.reduceEqDiff, Nat.one_ne_zero, Nat.not_lt_zero, ↓reduceIte, e1, e2, lc_refl]
theorem lw_21 {B b L i : Nat} {m : am_M} (h : LwS B b L m) (hi : i + 6 ≤ L) : LwG B b L 903 i m := by
  obtain ⟨G, hb, hK, hL⟩ := h
  obtain ⟨k0, kM, hs, -⟩ := G.ks
  have O : Op2 B 111 189 [.int (mI m b (i + 1))] m := op_21 G
  obtain ⟨v, m1, m2, e1, e2, G', bl⟩ := O
  have q := kq_cal e1
  have kb := (q.2 b (by omega)).1
  have ib := (q.2 b (by omega)).2 (by rw [hK])
  have km := (q.2 (B + 82) (by omega)).1
  rw [hK] at kb
  rw [kM] at km
  simp only at ib
  refine ⟨m2, ?_, G', bl⟩
  simp (disch := first | (simp (disch := omega) only [am_k_some, va_rf_some, va_rf_none, tl_some, tl_none, am_clr_int, am_clr_ref, am_clr_none, am_clr_long, am_w_nil, am_w_int, am_w_ref, am_w_long, am_w_null, am_bb_0, am_bb_1, am_bb_bI, xK_sI, xR_sI, xS_sI, xN_sI, xK_sL, xR_sL, xS_sL, xN_sL, xK_sR, xR_sR, xS_sR, xN_sR, xK_sA, xR_sA, xS_sA, xN_sA, Nat.reduceAdd, Nat.reduceLeDiff, sI_sA, I_sA', sA_sA, I_sA, I_sA', nI_add, mul_nI, bI_0, bI_1, k0, hK, kb, km, ix_nI, cl_nI]; done) | omega | assumption) only [e225_903, e225_904, e225_905, e225_906, e225_907, e225_908, e225_909, e225_912, e225_913, e225_914, e225_915, e225_916, e225_917, e225_918, e225_921, e225_922, am_k_some, va_rf_some, va_rf_none, tl_some, tl_none, am_clr_int, am_clr_ref, am_clr_none, am_clr_long, am_w_nil, am_w_int, am_w_ref, am_w_long, am_w_null, am_bb_0, am_bb_1, am_bb_bI, xK_sI, xR_sI, xS_sI, xN_sI, xK_sL, xR_sL, xS_sL, xN_sL, xK_sR, xR_sR, xS_sR, xN_sR, xK_sA, xR_sA, xS_sA, xN_sA, Nat.reduceAdd, Nat.reduceLeDiff, sI_sA, I_sA', sA_sA, I_sA, I_sA', nI_add, mul_nI, bI_0, bI_1, k0, hK, kb, km, ib, ix_nI, cl_nI, lt_nI, eq_nI, sub_nI, Nat.reduceEqDiff, Nat.one_ne_zero, Nat.not_lt_zero, ↓reduceIte, e1, e2, lc_refl]
theorem lw_22 {B b L i : Nat} {m : am_M} (h : LwS B b L m) (hi : i + 6 ≤ L) : LwG B b L 927 i m := by
  obtain ⟨G, hb, hK, hL⟩ := h
  obtain ⟨k0, kM, hs, -⟩ := G.ks
  have O : Op1 B 112 199 [] m := op_22 G
  obtain ⟨v, m1, m2, e1, e2, G', bl⟩ := O
  have q := kq_cal e1
  have kb := (q.2 b (by omega)).1
  have ib := (q.2 b (by omega)).2 (by rw [hK])
  have km := (q.2 (B + 82) (by omega)).1
  rw [hK] at kb
  rw [kM] at km
  simp only at ib
  refine ⟨m2, ?_, G', bl⟩
  simp (disch := first | (simp (disch := omega) only [am_k_some, va_rf_some, va_rf_none, tl_some, tl_none, am_clr_int, am_clr_ref, am_clr_none, am_clr_long, am_w_nil, am_w_int, am_w_ref, am_w_long, am_w_null, am_bb_0, am_bb_1, am_bb_bI, xK_sI, xR_sI, xS_sI, xN_sI, xK_sL, xR_sL, xS_sL, xN_sL, xK_sR, xR_sR, xS_sR, xN_sR, xK_sA, xR_sA, xS_sA, xN_sA, Nat.reduceAdd, Nat.reduceLeDiff, sI_sA, I_sA', sA_sA, I_sA, I_sA', nI_add, mul_nI, bI_0, bI_1, k0, hK, kb, km, ix_nI, cl_nI]; done) | omega | assumption) only [e225_927, e225_928, e225_931, e225_932, e225_935, am_k_some, va_rf_some, va_rf_none, tl_some, tl_none, am_clr_int, am_clr_ref, am_clr_none, am_clr_long, am_w_nil, am_w_int, am_w_ref, am_w_long, am_w_null, am_bb_0, am_bb_1, am_bb_bI, xK_sI, xR_sI, xS_sI, xN_sI, xK_sL, xR_sL, xS_sL, xN_sL, xK_sR, xR_sR, xS_sR, xN_sR, xK_sA, xR_sA, xS_sA, xN_sA, Nat.reduceAdd, Nat.reduceLeDiff, sI_sA, I_sA', sA_sA, I_sA, I_sA', nI_add, mul_nI, bI_0, bI_1, k0, hK, kb, km, ib, ix_nI, cl_nI, lt_nI, eq_nI, sub_nI, Nat.reduceEqDiff, Nat.one_ne_zero, Nat.not_lt_zero, ↓reduceIte, e1, e2, lc_refl]
theorem lw_23 {B b L i : Nat} {m : am_M} (h : LwS B b L m) (hi : i + 6 ≤ L) : LwG B b L 940 i m := by
  obtain ⟨G, hb, hK, hL⟩ := h
  obtain ⟨k0, kM, hs, -⟩ := G.ks
  have O : Op2 B 113 200 [.int (mI m b (i + 1))] m := op_23 G
  obtain ⟨v, m1, m2, e1, e2, G', bl⟩ := O
  have q := kq_cal e1
  have kb := (q.2 b (by omega)).1
  have ib := (q.2 b (by omega)).2 (by rw [hK])
  have km := (q.2 (B + 82) (by omega)).1
  rw [hK] at kb
  rw [kM] at km
  simp only at ib
  refine ⟨m2, ?_, G', bl⟩
  simp (disch := first | (simp (disch := omega) only [am_k_some, va_rf_some, va_rf_none, tl_some, tl_none, am_clr_int, am_clr_ref, am_clr_none, am_clr_long, am_w_nil, am_w_int, am_w_ref, am_w_long, am_w_null, am_bb_0, am_bb_1, am_bb_bI, xK_sI, xR_sI, xS_sI, xN_sI, xK_sL, xR_sL, xS_sL, xN_sL, xK_sR, xR_sR, xS_sR, xN_sR, xK_sA, xR_sA, xS_sA, xN_sA, Nat.reduceAdd, Nat.reduceLeDiff, sI_sA, I_sA', sA_sA, I_sA, I_sA', nI_add, mul_nI, bI_0, bI_1, k0, hK, kb, km, ix_nI, cl_nI]; done) | omega | assumption) only [e225_940, e225_941, e225_942, e225_943, e225_944, e225_945, e225_946, e225_949, e225_950, e225_951, e225_952, e225_953, e225_954, e225_955, e225_958, e225_959, am_k_some, va_rf_some, va_rf_none, tl_some, tl_none, am_clr_int, am_clr_ref, am_clr_none, am_clr_long, am_w_nil, am_w_int, am_w_ref, am_w_long, am_w_null, am_bb_0, am_bb_1, am_bb_bI, xK_sI, xR_sI, xS_sI, xN_sI, xK_sL, xR_sL, xS_sL, xN_sL, xK_sR, xR_sR, xS_sR, xN_sR, xK_sA, xR_sA, xS_sA, xN_sA, Nat.reduceAdd, Nat.reduceLeDiff, sI_sA, I_sA', sA_sA, I_sA, I_sA', nI_add, mul_nI, bI_0, bI_1, k0, hK, kb, km, ib, ix_nI, cl_nI, lt_nI, eq_nI, sub_nI, Nat.reduceEqDiff, Nat.one_ne_zero, Nat.not_lt_zero, ↓reduceIte, e1, e2, lc_refl]
theorem lw_24 {B b L i : Nat} {m : am_M} (h : LwS B b L m) (hi : i + 6 ≤ L) : LwG B b L 964 i m := by
  obtain ⟨G, hb, hK, hL⟩ := h
  obtain ⟨k0, kM, hs, -⟩ := G.ks
  have O : Op1 B 114 202 [] m := op_24 G
  obtain ⟨v, m1, m2, e1, e2, G', bl⟩ := O
  have q := kq_cal e1
  have kb := (q.2 b (by omega)).1
  have ib := (q.2 b (by omega)).2 (by rw [hK])
  have km := (q.2 (B + 82) (by omega)).1
  rw [hK] at kb
  rw [kM] at km
  simp only at ib
  refine ⟨m2, ?_, G', bl⟩
  simp (disch := first | (simp (disch := omega) only [am_k_some, va_rf_some, va_rf_none, tl_some, tl_none, am_clr_int, am_clr_ref, am_clr_none, am_clr_long, am_w_nil, am_w_int, am_w_ref, am_w_long, am_w_null, am_bb_0, am_bb_1, am_bb_bI, xK_sI, xR_sI, xS_sI, xN_sI, xK_sL, xR_sL, xS_sL, xN_sL, xK_sR, xR_sR, xS_sR, xN_sR, xK_sA, xR_sA, xS_sA, xN_sA, Nat.reduceAdd, Nat.reduceLeDiff, sI_sA, I_sA', sA_sA, I_sA, I_sA', nI_add, mul_nI, bI_0, bI_1, k0, hK, kb, km, ix_nI, cl_nI]; done) | omega | assumption) only [e225_964, e225_965, e225_968, e225_969, e225_972, am_k_some, va_rf_some, va_rf_none, tl_some, tl_none, am_clr_int, am_clr_ref, am_clr_none, am_clr_long, am_w_nil, am_w_int, am_w_ref, am_w_long, am_w_null, am_bb_0, am_bb_1, am_bb_bI, xK_sI, xR_sI, xS_sI, xN_sI, xK_sL, xR_sL, xS_sL, xN_sL, xK_sR, xR_sR, xS_sR, xN_sR, xK_sA, xR_sA, xS_sA, xN_sA, Nat.reduceAdd, Nat.reduceLeDiff, sI_sA, I_sA', sA_sA, I_sA, I_sA', nI_add, mul_nI, bI_0, bI_1, k0, hK, kb, km, ib, ix_nI, cl_nI, lt_nI, eq_nI, sub_nI, Nat.reduceEqDiff, Nat.one_ne_zero, Nat.not_lt_zero, ↓reduceIte, e1, e2, lc_refl]
theorem lw_25 {B b L i : Nat} {m : am_M} (h : LwS B b L m) (hi : i + 6 ≤ L) : LwG B b L 977 i m := by
  obtain ⟨G, hb, hK, hL⟩ := h
  obtain ⟨k0, kM, hs, -⟩ := G.ks
  have O : Op1 B 115 203 [.int (mI m b (i + 1))] m := op_25 G
  obtain ⟨v, m1, m2, e1, e2, G', bl⟩ := O
  have q := kq_cal e1
  have kb := (q.2 b (by omega)).1
  have ib := (q.2 b (by omega)).2 (by rw [hK])
  have km := (q.2 (B + 82) (by omega)).1
  rw [hK] at kb
  rw [kM] at km
  simp only at ib
  refine ⟨m2, ?_, G', bl⟩
  simp (disch := first | (simp (disch := omega) only [am_k_some, va_rf_some, va_rf_none, tl_some, tl_none, am_clr_int, am_clr_ref, am_clr_none, am_clr_long, am_w_nil, am_w_int, am_w_ref, am_w_long, am_w_null, am_bb_0, am_bb_1, am_bb_bI, xK_sI, xR_sI, xS_sI, xN_sI, xK_sL, xR_sL, xS_sL, xN_sL, xK_sR, xR_sR, xS_sR, xN_sR, xK_sA, xR_sA, xS_sA, xN_sA, Nat.reduceAdd, Nat.reduceLeDiff, sI_sA, I_sA', sA_sA, I_sA, I_sA', nI_add, mul_nI, bI_0, bI_1, k0, hK, kb, km, ix_nI, cl_nI]; done) | omega | assumption) only [e225_977, e225_978, e225_979, e225_980, e225_981, e225_982, e225_983, e225_986, e225_987, e225_988, e225_989, e225_990, e225_991, e225_992, e225_995, am_k_some, va_rf_some, va_rf_none, tl_some, tl_none, am_clr_int, am_clr_ref, am_clr_none, am_clr_long, am_w_nil, am_w_int, am_w_ref, am_w_long, am_w_null, am_bb_0, am_bb_1, am_bb_bI, xK_sI, xR_sI, xS_sI, xN_sI, xK_sL, xR_sL, xS_sL, xN_sL, xK_sR, xR_sR, xS_sR, xN_sR, xK_sA, xR_sA, xS_sA, xN_sA, Nat.reduceAdd, Nat.reduceLeDiff, sI_sA, I_sA', sA_sA, I_sA, I_sA', nI_add, mul_nI, bI_0, bI_1, k0, hK, kb, km, ib, ix_nI, cl_nI, lt_nI, eq_nI, sub_nI, Nat.reduceEqDiff, Nat.one_ne_zero, Nat.not_lt_zero, ↓reduceIte, e1, e2, lc_refl]
theorem lw_26 {B b L i : Nat} {m : am_M} (h : LwS B b L m) (hi : i + 6 ≤ L) : LwG B b L 1000 i m := by
  obtain ⟨G, hb, hK, hL⟩ := h
  obtain ⟨k0, kM, hs, -⟩ := G.ks
  have O : Op1 B 116 204 [.int (mI m b (i + 1))] m := op_26 G
  obtain ⟨v, m1, m2, e1, e2, G', bl⟩ := O
  have q := kq_cal e1
  have kb := (q.2 b (by omega)).1
  have ib := (q.2 b (by omega)).2 (by rw [hK])
  have km := (q.2 (B + 82) (by omega)).1
  rw [hK] at kb
  rw [kM] at km
  simp only at ib
  refine ⟨m2, ?_, G', bl⟩
  simp (disch := first | (simp (disch := omega) only [am_k_some, va_rf_some, va_rf_none, tl_some, tl_none, am_clr_int, am_clr_ref, am_clr_none, am_clr_long, am_w_nil, am_w_int, am_w_ref, am_w_long, am_w_null, am_bb_0, am_bb_1, am_bb_bI, xK_sI, xR_sI, xS_sI, xN_sI, xK_sL, xR_sL, xS_sL, xN_sL, xK_sR, xR_sR, xS_sR, xN_sR, xK_sA, xR_sA, xS_sA, xN_sA, Nat.reduceAdd, Nat.reduceLeDiff, sI_sA, I_sA', sA_sA, I_sA, I_sA', nI_add, mul_nI, bI_0, bI_1, k0, hK, kb, km, ix_nI, cl_nI]; done) | omega | assumption) only [e225_1000, e225_1001, e225_1002, e225_1003, e225_1004, e225_1005, e225_1006, e225_1009, e225_1010, e225_1011, e225_1012, e225_1013, e225_1014, e225_1015, e225_1018, am_k_some, va_rf_some, va_rf_none, tl_some, tl_none, am_clr_int, am_clr_ref, am_clr_none, am_clr_long, am_w_nil, am_w_int, am_w_ref, am_w_long, am_w_null, am_bb_0, am_bb_1, am_bb_bI, xK_sI, xR_sI, xS_sI, xN_sI, xK_sL, xR_sL, xS_sL, xN_sL, xK_sR, xR_sR, xS_sR, xN_sR, xK_sA, xR_sA, xS_sA, xN_sA, Nat.reduceAdd, Nat.reduceLeDiff, sI_sA, I_sA', sA_sA, I_sA, I_sA', nI_add, mul_nI, bI_0, bI_1, k0, hK, kb, km, ib, ix_nI, cl_nI, lt_nI, eq_nI, sub_nI, Nat.reduceEqDiff, Nat.one_ne_zero, Nat.not_lt_zero, ↓reduceIte, e1, e2, lc_refl]
theorem lw_27 {B b L i : Nat} {m : am_M} (h : LwS B b L m) (hi : i + 6 ≤ L) : LwG B b L 1023 i m := by
  obtain ⟨G, hb, hK, hL⟩ := h
  obtain ⟨k0, kM, hs, -⟩ := G.ks
  have O : Op1 B 117 205 [] m := op_27 G
  obtain ⟨v, m1, m2, e1, e2, G', bl⟩ := O
  have q := kq_cal e1
  have kb := (q.2 b (by omega)).1
  have ib := (q.2 b (by omega)).2 (by rw [hK])
  have km := (q.2 (B + 82) (by omega)).1
  rw [hK] at kb
  rw [kM] at km
  simp only at ib
  refine ⟨m2, ?_, G', bl⟩
  simp (disch := first | (simp (disch := omega) only [am_k_some, va_rf_some, va_rf_none, tl_some, tl_none, am_clr_int, am_clr_ref, am_clr_none, am_clr_long, am_w_nil, am_w_int, am_w_ref, am_w_long, am_w_null, am_bb_0, am_bb_1, am_bb_bI, xK_sI, xR_sI, xS_sI, xN_sI, xK_sL, xR_sL, xS_sL, xN_sL, xK_sR, xR_sR, xS_sR, xN_sR, xK_sA, xR_sA, xS_sA, xN_sA, Nat.reduceAdd, Nat.reduceLeDiff, sI_sA, I_sA', sA_sA, I_sA, I_sA', nI_add, mul_nI, bI_0, bI_1, k0, hK, kb, km, ix_nI, cl_nI]; done) | omega | assumption) only [e225_1023, e225_1024, e225_1027, e225_1028, e225_1031, am_k_some, va_rf_some, va_rf_none, tl_some, tl_none, am_clr_int, am_clr_ref, am_clr_none, am_clr_long, am_w_nil, am_w_int, am_w_ref, am_w_long, am_w_null, am_bb_0, am_bb_1, am_bb_bI, xK_sI, xR_sI, xS_sI, xN_sI, xK_sL, xR_sL, xS_sL, xN_sL, xK_sR, xR_sR, xS_sR, xN_sR, xK_sA, xR_sA, xS_sA, xN_sA, Nat.reduceAdd, Nat.reduceLeDiff, sI_sA, I_sA', sA_sA, I_sA, I_sA', nI_add, mul_nI, bI_0, bI_1, k0, hK, kb, km, ib, ix_nI, cl_nI, lt_nI, eq_nI, sub_nI, Nat.reduceEqDiff, Nat.one_ne_zero, Nat.not_lt_zero, ↓reduceIte, e1, e2, lc_refl]
theorem lw_28 {B b L i : Nat} {m : am_M} (h : LwS B b L m) (hi : i + 6 ≤ L) : LwG B b L 1036 i m := by
  obtain ⟨G, hb, hK, hL⟩ := h
  obtain ⟨k0, kM, hs, -⟩ := G.ks
  have O : Op1 B 118 206 [.int (mI m b (i + 1))] m := op_28 G
  obtain ⟨v, m1, m2, e1, e2, G', bl⟩ := O
  have q := kq_cal e1
  have kb := (q.2 b (by omega)).1
  have ib := (q.2 b (by omega)).2 (by rw [hK])
  have km := (q.2 (B + 82) (by omega)).1
  rw [hK] at kb
  rw [kM] at km
  simp only at ib
  refine ⟨m2, ?_, G', bl⟩
  simp (disch := first | (simp (disch := omega) only [am_k_some, va_rf_some, va_rf_none, tl_some, tl_none, am_clr_int, am_clr_ref, am_clr_none, am_clr_long, am_w_nil, am_w_int, am_w_ref, am_w_long, am_w_null, am_bb_0, am_bb_1, am_bb_bI, xK_sI, xR_sI, xS_sI, xN_sI, xK_sL, xR_sL, xS_sL, xN_sL, xK_sR, xR_sR, xS_sR, xN_sR, xK_sA, xR_sA, xS_sA, xN_sA, Nat.reduceAdd, Nat.reduceLeDiff, sI_sA, I_sA', sA_sA, I_sA, I_sA', nI_add, mul_nI, bI_0, bI_1, k0, hK, kb, km, ix_nI, cl_nI]; done) | omega | assumption) only [e225_1036, e225_1037, e225_1038, e225_1039, e225_1040, e225_1041, e225_1042, e225_1045, e225_1046, e225_1047, e225_1048, e225_1049, e225_1050, e225_1051, e225_1054, am_k_some, va_rf_some, va_rf_none, tl_some, tl_none, am_clr_int, am_clr_ref, am_clr_none, am_clr_long, am_w_nil, am_w_int, am_w_ref, am_w_long, am_w_null, am_bb_0, am_bb_1, am_bb_bI, xK_sI, xR_sI, xS_sI, xN_sI, xK_sL, xR_sL, xS_sL, xN_sL, xK_sR, xR_sR, xS_sR, xN_sR, xK_sA, xR_sA, xS_sA, xN_sA, Nat.reduceAdd, Nat.reduceLeDiff, sI_sA, I_sA', sA_sA, I_sA, I_sA', nI_add, mul_nI, bI_0, bI_1, k0, hK, kb, km, ib, ix_nI, cl_nI, lt_nI, eq_nI, sub_nI, Nat.reduceEqDiff, Nat.one_ne_zero, Nat.not_lt_zero, ↓reduceIte, e1, e2, lc_refl]
theorem lw_29 {B b L i : Nat} {m : am_M} (h : LwS B b L m) (hi : i + 6 ≤ L) : LwG B b L 1059 i m := by
  obtain ⟨G, hb, hK, hL⟩ := h
  obtain ⟨k0, kM, hs, -⟩ := G.ks
  have O : Op1 B 119 214 [] m := op_29 G
  obtain ⟨v, m1, m2, e1, e2, G', bl⟩ := O
  have q := kq_cal e1
  have kb := (q.2 b (by omega)).1
  have ib := (q.2 b (by omega)).2 (by rw [hK])
  have km := (q.2 (B + 82) (by omega)).1
  rw [hK] at kb
  rw [kM] at km
  simp only at ib
  refine ⟨m2, ?_, G', bl⟩
  simp (disch := first | (simp (disch := omega) only [am_k_some, va_rf_some, va_rf_none, tl_some, tl_none, am_clr_int, am_clr_ref, am_clr_none, am_clr_long, am_w_nil, am_w_int, am_w_ref, am_w_long, am_w_null, am_bb_0, am_bb_1, am_bb_bI, xK_sI, xR_sI, xS_sI, xN_sI, xK_sL, xR_sL, xS_sL, xN_sL, xK_sR, xR_sR, xS_sR, xN_sR, xK_sA, xR_sA, xS_sA, xN_sA, Nat.reduceAdd, Nat.reduceLeDiff, sI_sA, I_sA', sA_sA, I_sA, I_sA', nI_add, mul_nI, bI_0, bI_1, k0, hK, kb, km, ix_nI, cl_nI]; done) | omega | assumption) only [e225_1059, e225_1060, e225_1063, e225_1064, e225_1067, am_k_some, va_rf_some, va_rf_none, tl_some, tl_none, am_clr_int, am_clr_ref, am_clr_none, am_clr_long, am_w_nil, am_w_int, am_w_ref, am_w_long, am_w_null, am_bb_0, am_bb_1, am_bb_bI, xK_sI, xR_sI, xS_sI, xN_sI, xK_sL, xR_sL, xS_sL, xN_sL, xK_sR, xR_sR, xS_sR, xN_sR, xK_sA, xR_sA, xS_sA, xN_sA, Nat.reduceAdd, Nat.reduceLeDiff, sI_sA, I_sA', sA_sA, I_sA, I_sA', nI_add, mul_nI, bI_0, bI_1, k0, hK, kb, km, ib, ix_nI, cl_nI, lt_nI, eq_nI, sub_nI, Nat.reduceEqDiff, Nat.one_ne_zero, Nat.not_lt_zero, ↓reduceIte, e1, e2, lc_refl]
theorem lw_30 {B b L i : Nat} {m : am_M} (h : LwS B b L m) (hi : i + 6 ≤ L) : LwG B b L 1072 i m := by
  obtain ⟨G, hb, hK, hL⟩ := h
  obtain ⟨k0, kM, hs, -⟩ := G.ks
  have O : Op1 B 120 215 [.int (mI m b (i + 1)), .int (mI m b (i + 2))] m := op_30 G
  obtain ⟨v, m1, m2, e1, e2, G', bl⟩ := O
  have q := kq_cal e1
  have kb := (q.2 b (by omega)).1
  have ib := (q.2 b (by omega)).2 (by rw [hK])
  have km := (q.2 (B + 82) (by omega)).1
  rw [hK] at kb
  rw [kM] at km
  simp only at ib
  refine ⟨m2, ?_, G', bl⟩
  simp (disch := first | (simp (disch := omega) only [am_k_some, va_rf_some, va_rf_none, tl_some, tl_none, am_clr_int, am_clr_ref, am_clr_none, am_clr_long, am_w_nil, am_w_int, am_w_ref, am_w_long, am_w_null, am_bb_0, am_bb_1, am_bb_bI, xK_sI, xR_sI, xS_sI, xN_sI, xK_sL, xR_sL, xS_sL, xN_sL, xK_sR, xR_sR, xS_sR, xN_sR, xK_sA, xR_sA, xS_sA, xN_sA, Nat.reduceAdd, Nat.reduceLeDiff, sI_sA, I_sA', sA_sA, I_sA, I_sA', nI_add, mul_nI, bI_0, bI_1, k0, hK, kb, km, ix_nI, cl_nI]; done) | omega | assumption) only [e225_1072, e225_1073, e225_1074, e225_1075, e225_1076, e225_1077, e225_1078, e225_1079, e225_1080, e225_1081, e225_1082, e225_1083, e225_1086, e225_1087, e225_1088, e225_1089, e225_1090, e225_1091, e225_1092, e225_1093, e225_1094, e225_1095, e225_1096, e225_1097, e225_1100, am_k_some, va_rf_some, va_rf_none, tl_some, tl_none, am_clr_int, am_clr_ref, am_clr_none, am_clr_long, am_w_nil, am_w_int, am_w_ref, am_w_long, am_w_null, am_bb_0, am_bb_1, am_bb_bI, xK_sI, xR_sI, xS_sI, xN_sI, xK_sL, xR_sL, xS_sL, xN_sL, xK_sR, xR_sR, xS_sR, xN_sR, xK_sA, xR_sA, xS_sA, xN_sA, Nat.reduceAdd, Nat.reduceLeDiff, sI_sA, I_sA', sA_sA, I_sA, I_sA', nI_add, mul_nI, bI_0, bI_1, k0, hK, kb, km, ib, ix_nI, cl_nI, lt_nI, eq_nI, sub_nI, Nat.reduceEqDiff, Nat.one_ne_zero, Nat.not_lt_zero, ↓reduceIte, e1, e2, lc_refl]
theorem lw_31 {B b L i : Nat} {m : am_M} (h : LwS B b L m) (hi : i + 6 ≤ L) : LwG B b L 1105 i m := by
  obtain ⟨G, hb, hK, hL⟩ := h
  obtain ⟨k0, kM, hs, -⟩ := G.ks
  have O : Op1 B 121 216 [] m := op_31 G
  obtain ⟨v, m1, m2, e1, e2, G', bl⟩ := O
  have q := kq_cal e1
  have kb := (q.2 b (by omega)).1
  have ib := (q.2 b (by omega)).2 (by rw [hK])
  have km := (q.2 (B + 82) (by omega)).1
  rw [hK] at kb
  rw [kM] at km
  simp only at ib
  refine ⟨m2, ?_, G', bl⟩
  simp (disch := first | (simp (disch := omega) only [am_k_some, va_rf_some, va_rf_none, tl_some, tl_none, am_clr_int, am_clr_ref, am_clr_none, am_clr_long, am_w_nil, am_w_int, am_w_ref, am_w_long, am_w_null, am_bb_0, am_bb_1, am_bb_bI, xK_sI, xR_sI, xS_sI, xN_sI, xK_sL, xR_sL, xS_sL, xN_sL, xK_sR, xR_sR, xS_sR, xN_sR, xK_sA, xR_sA, xS_sA, xN_sA, Nat.reduceAdd, Nat.reduceLeDiff, sI_sA, I_sA', sA_sA, I_sA, I_sA', nI_add, mul_nI, bI_0, bI_1, k0, hK, kb, km, ix_nI, cl_nI]; done) | omega | assumption) only [e225_1105, e225_1106, e225_1109, e225_1110, e225_1113, am_k_some, va_rf_some, va_rf_none, tl_some, tl_none, am_clr_int, am_clr_ref, am_clr_none, am_clr_long, am_w_nil, am_w_int, am_w_ref, am_w_long, am_w_null, am_bb_0, am_bb_1, am_bb_bI, xK_sI, xR_sI, xS_sI, xN_sI, xK_sL, xR_sL, xS_sL, xN_sL, xK_sR, xR_sR, xS_sR, xN_sR, xK_sA, xR_sA, xS_sA, xN_sA, Nat.reduceAdd, Nat.reduceLeDiff, sI_sA, I_sA', sA_sA, I_sA, I_sA', nI_add, mul_nI, bI_0, bI_1, k0, hK, kb, km, ib, ix_nI, cl_nI, lt_nI, eq_nI, sub_nI, Nat.reduceEqDiff, Nat.one_ne_zero, Nat.not_lt_zero, ↓reduceIte, e1, e2, lc_refl]
theorem lw_32 {B b L i : Nat} {m : am_M} (h : LwS B b L m) (hi : i + 6 ≤ L) : LwG B b L 1118 i m := by
  obtain ⟨G, hb, hK, hL⟩ := h
  obtain ⟨k0, kM, hs, -⟩ := G.ks
  have O : Op1 B 122 217 [.int (mI m b (i + 1)), .int (mI m b (i + 2)), .int (mI m b (i + 3)), .int (mI m b (i + 4))] m := op_32 G
  obtain ⟨v, m1, m2, e1, e2, G', bl⟩ := O
  have q := kq_cal e1
  have kb := (q.2 b (by omega)).1
  have ib := (q.2 b (by omega)).2 (by rw [hK])
  have km := (q.2 (B + 82) (by omega)).1
  rw [hK] at kb
  rw [kM] at km
  simp only at ib
  refine ⟨m2, ?_, G', bl⟩
  simp (disch := first | (simp (disch := omega) only [am_k_some, va_rf_some, va_rf_none, tl_some, tl_none, am_clr_int, am_clr_ref, am_clr_none, am_clr_long, am_w_nil, am_w_int, am_w_ref, am_w_long, am_w_null, am_bb_0, am_bb_1, am_bb_bI, xK_sI, xR_sI, xS_sI, xN_sI, xK_sL, xR_sL, xS_sL, xN_sL, xK_sR, xR_sR, xS_sR, xN_sR, xK_sA, xR_sA, xS_sA, xN_sA, Nat.reduceAdd, Nat.reduceLeDiff, sI_sA, I_sA', sA_sA, I_sA, I_sA', nI_add, mul_nI, bI_0, bI_1, k0, hK, kb, km, ix_nI, cl_nI]; done) | omega | assumption) only [e225_1118, e225_1119, e225_1120, e225_1121, e225_1122, e225_1123, e225_1124, e225_1125, e225_1126, e225_1127, e225_1128, e225_1129, e225_1130, e225_1131, e225_1132, e225_1133, e225_1134, e225_1135, e225_1136, e225_1137, e225_1138, e225_1139, e225_1142, e225_1143, e225_1144, e225_1145, e225_1146, e225_1147, e225_1148, e225_1149, e225_1150, e225_1151, e225_1152, e225_1153, e225_1154, e225_1155, e225_1156, e225_1157, e225_1158, e225_1159, e225_1160, e225_1161, e225_1162, e225_1163, e225_1166, am_k_some, va_rf_some, va_rf_none, tl_some, tl_none, am_clr_int, am_clr_ref, am_clr_none, am_clr_long, am_w_nil, am_w_int, am_w_ref, am_w_long, am_w_null, am_bb_0, am_bb_1, am_bb_bI, xK_sI, xR_sI, xS_sI, xN_sI, xK_sL, xR_sL, xS_sL, xN_sL, xK_sR, xR_sR, xS_sR, xN_sR, xK_sA, xR_sA, xS_sA, xN_sA, Nat.reduceAdd, Nat.reduceLeDiff, sI_sA, I_sA', sA_sA, I_sA, I_sA', nI_add, mul_nI, bI_0, bI_1, k0, hK, kb, km, ib, ix_nI, cl_nI, lt_nI, eq_nI, sub_nI, Nat.reduceEqDiff, Nat.one_ne_zero, Nat.not_lt_zero, ↓reduceIte, e1, e2, lc_refl]
theorem lw_33 {B b L i : Nat} {m : am_M} (h : LwS B b L m) (hi : i + 6 ≤ L) : LwG B b L 1171 i m := by
  obtain ⟨G, hb, hK, hL⟩ := h
  obtain ⟨k0, kM, hs, -⟩ := G.ks
  have O : Op1 B 123 218 [] m := op_33 G
  obtain ⟨v, m1, m2, e1, e2, G', bl⟩ := O
  have q := kq_cal e1
  have kb := (q.2 b (by omega)).1
  have ib := (q.2 b (by omega)).2 (by rw [hK])
  have km := (q.2 (B + 82) (by omega)).1
  rw [hK] at kb
  rw [kM] at km
  simp only at ib
  refine ⟨m2, ?_, G', bl⟩
  simp (disch := first | (simp (disch := omega) only [am_k_some, va_rf_some, va_rf_none, tl_some, tl_none, am_clr_int, am_clr_ref, am_clr_none, am_clr_long, am_w_nil, am_w_int, am_w_ref, am_w_long, am_w_null, am_bb_0, am_bb_1, am_bb_bI, xK_sI, xR_sI, xS_sI, xN_sI, xK_sL, xR_sL, xS_sL, xN_sL, xK_sR, xR_sR, xS_sR, xN_sR, xK_sA, xR_sA, xS_sA, xN_sA, Nat.reduceAdd, Nat.reduceLeDiff, sI_sA, I_sA', sA_sA, I_sA, I_sA', nI_add, mul_nI, bI_0, bI_1, k0, hK, kb, km, ix_nI, cl_nI]; done) | omega | assumption) only [e225_1171, e225_1172, e225_1175, e225_1176, e225_1179, am_k_some, va_rf_some, va_rf_none, tl_some, tl_none, am_clr_int, am_clr_ref, am_clr_none, am_clr_long, am_w_nil, am_w_int, am_w_ref, am_w_long, am_w_null, am_bb_0, am_bb_1, am_bb_bI, xK_sI, xR_sI, xS_sI, xN_sI, xK_sL, xR_sL, xS_sL, xN_sL, xK_sR, xR_sR, xS_sR, xN_sR, xK_sA, xR_sA, xS_sA, xN_sA, Nat.reduceAdd, Nat.reduceLeDiff, sI_sA, I_sA', sA_sA, I_sA, I_sA', nI_add, mul_nI, bI_0, bI_1, k0, hK, kb, km, ib, ix_nI, cl_nI, lt_nI, eq_nI, sub_nI, Nat.reduceEqDiff, Nat.one_ne_zero, Nat.not_lt_zero, ↓reduceIte, e1, e2, lc_refl]
theorem lw_34 {B b L i : Nat} {m : am_M} (h : LwS B b L m) (hi : i + 6 ≤ L) : LwG B b L 1184 i m := by
  obtain ⟨G, hb, hK, hL⟩ := h
  obtain ⟨k0, kM, hs, -⟩ := G.ks
  have O : Op1 B 124 221 [] m := op_34 G
  obtain ⟨v, m1, m2, e1, e2, G', bl⟩ := O
  have q := kq_cal e1
  have kb := (q.2 b (by omega)).1
  have ib := (q.2 b (by omega)).2 (by rw [hK])
  have km := (q.2 (B + 82) (by omega)).1
  rw [hK] at kb
  rw [kM] at km
  simp only at ib
  refine ⟨m2, ?_, G', bl⟩
  simp (disch := first | (simp (disch := omega) only [am_k_some, va_rf_some, va_rf_none, tl_some, tl_none, am_clr_int, am_clr_ref, am_clr_none, am_clr_long, am_w_nil, am_w_int, am_w_ref, am_w_long, am_w_null, am_bb_0, am_bb_1, am_bb_bI, xK_sI, xR_sI, xS_sI, xN_sI, xK_sL, xR_sL, xS_sL, xN_sL, xK_sR, xR_sR, xS_sR, xN_sR, xK_sA, xR_sA, xS_sA, xN_sA, Nat.reduceAdd, Nat.reduceLeDiff, sI_sA, I_sA', sA_sA, I_sA, I_sA', nI_add, mul_nI, bI_0, bI_1, k0, hK, kb, km, ix_nI, cl_nI]; done) | omega | assumption) only [e225_1184, e225_1185, e225_1188, e225_1189, e225_1192, am_k_some, va_rf_some, va_rf_none, tl_some, tl_none, am_clr_int, am_clr_ref, am_clr_none, am_clr_long, am_w_nil, am_w_int, am_w_ref, am_w_long, am_w_null, am_bb_0, am_bb_1, am_bb_bI, xK_sI, xR_sI, xS_sI, xN_sI, xK_sL, xR_sL, xS_sL, xN_sL, xK_sR, xR_sR, xS_sR, xN_sR, xK_sA, xR_sA, xS_sA, xN_sA, Nat.reduceAdd, Nat.reduceLeDiff, sI_sA, I_sA', sA_sA, I_sA, I_sA', nI_add, mul_nI, bI_0, bI_1, k0, hK, kb, km, ib, ix_nI, cl_nI, lt_nI, eq_nI, sub_nI, Nat.reduceEqDiff, Nat.one_ne_zero, Nat.not_lt_zero, ↓reduceIte, e1, e2, lc_refl]
theorem lw_35 {B b L i : Nat} {m : am_M} (h : LwS B b L m) (hi : i + 6 ≤ L) : LwG B b L 1197 i m := by
  obtain ⟨G, hb, hK, hL⟩ := h
  obtain ⟨k0, kM, hs, -⟩ := G.ks
  have O : Op1 B 125 222 [.int (mI m b (i + 1))] m := op_35 G
  obtain ⟨v, m1, m2, e1, e2, G', bl⟩ := O
  have q := kq_cal e1
  have kb := (q.2 b (by omega)).1
  have ib := (q.2 b (by omega)).2 (by rw [hK])
  have km := (q.2 (B + 82) (by omega)).1
  rw [hK] at kb
  rw [kM] at km
  simp only at ib
  refine ⟨m2, ?_, G', bl⟩
  simp (disch := first | (simp (disch := omega) only [am_k_some, va_rf_some, va_rf_none, tl_some, tl_none, am_clr_int, am_clr_ref, am_clr_none, am_clr_long, am_w_nil, am_w_int, am_w_ref, am_w_long, am_w_null, am_bb_0, am_bb_1, am_bb_bI, xK_sI, xR_sI, xS_sI, xN_sI, xK_sL, xR_sL, xS_sL, xN_sL, xK_sR, xR_sR, xS_sR, xN_sR, xK_sA, xR_sA, xS_sA, xN_sA, Nat.reduceAdd, Nat.reduceLeDiff, sI_sA, I_sA', sA_sA, I_sA, I_sA', nI_add, mul_nI, bI_0, bI_1, k0, hK, kb, km, ix_nI, cl_nI]; done) | omega | assumption) only [e225_1197, e225_1198, e225_1199, e225_1200, e225_1201, e225_1202, e225_1203, e225_1206, e225_1207, e225_1208, e225_1209, e225_1210, e225_1211, e225_1212, e225_1215, am_k_some, va_rf_some, va_rf_none, tl_some, tl_none, am_clr_int, am_clr_ref, am_clr_none, am_clr_long, am_w_nil, am_w_int, am_w_ref, am_w_long, am_w_null, am_bb_0, am_bb_1, am_bb_bI, xK_sI, xR_sI, xS_sI, xN_sI, xK_sL, xR_sL, xS_sL, xN_sL, xK_sR, xR_sR, xS_sR, xN_sR, xK_sA, xR_sA, xS_sA, xN_sA, Nat.reduceAdd, Nat.reduceLeDiff, sI_sA, I_sA', sA_sA, I_sA, I_sA', nI_add, mul_nI, bI_0, bI_1, k0, hK, kb, km, ib, ix_nI, cl_nI, lt_nI, eq_nI, sub_nI, Nat.reduceEqDiff, Nat.one_ne_zero, Nat.not_lt_zero, ↓reduceIte, e1, e2, lc_refl]
theorem lw_36 {B b L i : Nat} {m : am_M} (h : LwS B b L m) (hi : i + 6 ≤ L) : LwG B b L 1220 i m := by
  obtain ⟨G, hb, hK, hL⟩ := h
  obtain ⟨k0, kM, hs, -⟩ := G.ks
  have O : Op1 B 126 223 [.int (mI m b (i + 1))] m := op_36 G
  obtain ⟨v, m1, m2, e1, e2, G', bl⟩ := O
  have q := kq_cal e1
  have kb := (q.2 b (by omega)).1
  have ib := (q.2 b (by omega)).2 (by rw [hK])
  have km := (q.2 (B + 82) (by omega)).1
  rw [hK] at kb
  rw [kM] at km
  simp only at ib
  refine ⟨m2, ?_, G', bl⟩
  simp (disch := first | (simp (disch := omega) only [am_k_some, va_rf_some, va_rf_none, tl_some, tl_none, am_clr_int, am_clr_ref, am_clr_none, am_clr_long, am_w_nil, am_w_int, am_w_ref, am_w_long, am_w_null, am_bb_0, am_bb_1, am_bb_bI, xK_sI, xR_sI, xS_sI, xN_sI, xK_sL, xR_sL, xS_sL, xN_sL, xK_sR, xR_sR, xS_sR, xN_sR, xK_sA, xR_sA, xS_sA, xN_sA, Nat.reduceAdd, Nat.reduceLeDiff, sI_sA, I_sA', sA_sA, I_sA, I_sA', nI_add, mul_nI, bI_0, bI_1, k0, hK, kb, km, ix_nI, cl_nI]; done) | omega | assumption) only [e225_1220, e225_1221, e225_1222, e225_1223, e225_1224, e225_1225, e225_1226, e225_1229, e225_1230, e225_1231, e225_1232, e225_1233, e225_1234, e225_1235, e225_1238, am_k_some, va_rf_some, va_rf_none, tl_some, tl_none, am_clr_int, am_clr_ref, am_clr_none, am_clr_long, am_w_nil, am_w_int, am_w_ref, am_w_long, am_w_null, am_bb_0, am_bb_1, am_bb_bI, xK_sI, xR_sI, xS_sI, xN_sI, xK_sL, xR_sL, xS_sL, xN_sL, xK_sR, xR_sR, xS_sR, xN_sR, xK_sA, xR_sA, xS_sA, xN_sA, Nat.reduceAdd, Nat.reduceLeDiff, sI_sA, I_sA', sA_sA, I_sA, I_sA', nI_add, mul_nI, bI_0, bI_1, k0, hK, kb, km, ib, ix_nI, cl_nI, lt_nI, eq_nI, sub_nI, Nat.reduceEqDiff, Nat.one_ne_zero, Nat.not_lt_zero, ↓reduceIte, e1, e2, lc_refl]
theorem lw_37 {B b L i : Nat} {m : am_M} (h : LwS B b L m) (hi : i + 6 ≤ L) : LwG B b L 1243 i m := by
  obtain ⟨G, hb, hK, hL⟩ := h
  obtain ⟨k0, kM, hs, -⟩ := G.ks
  have O : Op1 B 127 224 [.int (mI m b (i + 1))] m := op_37 G
  obtain ⟨v, m1, m2, e1, e2, G', bl⟩ := O
  have q := kq_cal e1
  have kb := (q.2 b (by omega)).1
  have ib := (q.2 b (by omega)).2 (by rw [hK])
  have km := (q.2 (B + 82) (by omega)).1
  rw [hK] at kb
  rw [kM] at km
  simp only at ib
  refine ⟨m2, ?_, G', bl⟩
  simp (disch := first | (simp (disch := omega) only [am_k_some, va_rf_some, va_rf_none, tl_some, tl_none, am_clr_int, am_clr_ref, am_clr_none, am_clr_long, am_w_nil, am_w_int, am_w_ref, am_w_long, am_w_null, am_bb_0, am_bb_1, am_bb_bI, xK_sI, xR_sI, xS_sI, xN_sI, xK_sL, xR_sL, xS_sL, xN_sL, xK_sR, xR_sR, xS_sR, xN_sR, xK_sA, xR_sA, xS_sA, xN_sA, Nat.reduceAdd, Nat.reduceLeDiff, sI_sA, I_sA', sA_sA, I_sA, I_sA', nI_add, mul_nI, bI_0, bI_1, k0, hK, kb, km, ix_nI, cl_nI]; done) | omega | assumption) only [e225_1243, e225_1244, e225_1245, e225_1246, e225_1247, e225_1248, e225_1249, e225_1252, e225_1253, e225_1254, e225_1255, e225_1256, e225_1257, e225_1258, e225_1261, am_k_some, va_rf_some, va_rf_none, tl_some, tl_none, am_clr_int, am_clr_ref, am_clr_none, am_clr_long, am_w_nil, am_w_int, am_w_ref, am_w_long, am_w_null, am_bb_0, am_bb_1, am_bb_bI, xK_sI, xR_sI, xS_sI, xN_sI, xK_sL, xR_sL, xS_sL, xN_sL, xK_sR, xR_sR, xS_sR, xN_sR, xK_sA, xR_sA, xS_sA, xN_sA, Nat.reduceAdd, Nat.reduceLeDiff, sI_sA, I_sA', sA_sA, I_sA, I_sA', nI_add, mul_nI, bI_0, bI_1, k0, hK, kb, km, ib, ix_nI, cl_nI, lt_nI, eq_nI, sub_nI, Nat.reduceEqDiff, Nat.one_ne_zero, Nat.not_lt_zero, ↓reduceIte, e1, e2, lc_refl]
/-- one round of the loop -/
theorem lw_one {B b L i : Nat} {m : am_M} (h : LwS B b L m) (hi : i + 6 ≤ L) : LwG B b L 27 i m := by
  obtain ⟨G, hb, hK, hL⟩ := id h
  obtain ⟨m', e, g, bl⟩ : LwG B b L 27 i m := by
    have X : ev 40 225 27 [some (.ref b), some (.ref B), some (.ref (B + 82)), some (.int (nI i))] [] m = ev 40 225 33 [some (.ref b), some (.ref B), some (.ref (B + 82)), some (.int (nI i))] [.int (mI m b i &&& nI 63)] m := by
      simp (disch := first | (simp (disch := omega) only [am_k_some, va_rf_some, va_rf_none, tl_some, tl_none, am_clr_int, am_clr_ref, am_clr_none, am_clr_long, am_w_nil, am_w_int, am_w_ref, am_w_long, am_w_null, am_bb_0, am_bb_1, am_bb_bI, xK_sI, xR_sI, xS_sI, xN_sI, xK_sL, xR_sL, xS_sL, xN_sL, xK_sR, xR_sR, xS_sR, xN_sR, xK_sA, xR_sA, xS_sA, xN_sA, Nat.reduceAdd, Nat.reduceLeDiff, sI_sA, I_sA', sA_sA, I_sA, I_sA', nI_add, mul_nI, bI_0, bI_1, hK, ix_nI, cl_nI]; done) | omega | assumption) only [e225_27, e225_28, e225_29, e225_30, e225_32, am_k_some, va_rf_some, va_rf_none, tl_some, tl_none, am_clr_int, am_clr_ref, am_clr_none, am_clr_long, am_w_nil, am_w_int, am_w_ref, am_w_long, am_w_null, am_bb_0, am_bb_1, am_bb_bI, xK_sI, xR_sI, xS_sI, xN_sI, xK_sL, xR_sL, xS_sL, xN_sL, xK_sR, xR_sR, xS_sR, xN_sR, xK_sA, xR_sA, xS_sA, xN_sA, Nat.reduceAdd, Nat.reduceLeDiff, sI_sA, I_sA', sA_sA, I_sA, I_sA', nI_add, mul_nI, bI_0, bI_1, hK, ix_nI, cl_nI, lt_nI, eq_nI, sub_nI, Nat.reduceEqDiff, Nat.one_ne_zero, Nat.not_lt_zero, ↓reduceIte]
    generalize mI m b i &&& nI 63 = y at X
    by_cases hx : y.toInt < 0 ∨ 37 < y.toInt
    · exact ⟨m, by rw [X, e225_33_x hx], G, Bel.refl B m⟩
    · obtain ⟨k, h1, h2⟩ := rngU y 37 (by omega) (fun q => by
        rw [Int32.lt_iff_toInt_lt] at q
        have z0 : (nI 0).toInt = 0 := by decide
        omega) (fun q => by
        rw [Int32.lt_iff_toInt_lt] at q
        have z0 : (nI 37).toInt = 37 := by decide
        omega)
      subst h2
      have : k = 0 ∨ k = 1 ∨ k = 2 ∨ k = 3 ∨ k = 4 ∨ k = 5 ∨ k = 6 ∨ k = 7 ∨ k = 8 ∨ k = 9 ∨ k = 10 ∨ k = 11 ∨ k = 12 ∨ k = 13 ∨ k = 14 ∨ k = 15 ∨ k = 16 ∨ k = 17 ∨ k = 18 ∨ k = 19 ∨ k = 20 ∨ k = 21 ∨ k = 22 ∨ k = 23 ∨ k = 24 ∨ k = 25 ∨ k = 26 ∨ k = 27 ∨ k = 28 ∨ k = 29 ∨ k = 30 ∨ k = 31 ∨ k = 32 ∨ k = 33 ∨ k = 34 ∨ k = 35 ∨ k = 36 ∨ k = 37 := by omega
      rcases this with rfl | rfl | rfl | rfl | rfl | rfl | rfl | rfl | rfl | rfl | rfl | rfl | rfl | rfl | rfl | rfl | rfl | rfl | rfl | rfl | rfl | rfl | rfl | rfl | rfl | rfl | rfl | rfl | rfl | rfl | rfl | rfl | rfl | rfl | rfl | rfl | rfl | rfl
      · obtain ⟨m', e, g, bl⟩ := lw_0 h hi
        exact ⟨m', by rw [X, e225_33_0]; exact e, g, bl⟩
      · obtain ⟨m', e, g, bl⟩ := lw_1 h hi
        exact ⟨m', by rw [X, e225_33_1]; exact e, g, bl⟩
      · obtain ⟨m', e, g, bl⟩ := lw_2 h hi
        exact ⟨m', by rw [X, e225_33_2]; exact e, g, bl⟩
      · obtain ⟨m', e, g, bl⟩ := lw_3 h hi
        exact ⟨m', by rw [X, e225_33_3]; exact e, g, bl⟩
      · obtain ⟨m', e, g, bl⟩ := lw_4 h hi
        exact ⟨m', by rw [X, e225_33_4]; exact e, g, bl⟩
      · obtain ⟨m', e, g, bl⟩ := lw_5 h hi
        exact ⟨m', by rw [X, e225_33_5]; exact e, g, bl⟩
      · obtain ⟨m', e, g, bl⟩ := lw_6 h hi
        exact ⟨m', by rw [X, e225_33_6]; exact e, g, bl⟩
      · obtain ⟨m', e, g, bl⟩ := lw_7 h hi
        exact ⟨m', by rw [X, e225_33_7]; exact e, g, bl⟩
      · obtain ⟨m', e, g, bl⟩ := lw_8 h hi
        exact ⟨m', by rw [X, e225_33_8]; exact e, g, bl⟩
      · obtain ⟨m', e, g, bl⟩ := lw_9 h hi
        exact ⟨m', by rw [X, e225_33_9]; exact e, g, bl⟩
      · obtain ⟨m', e, g, bl⟩ := lw_10 h hi
        exact ⟨m', by rw [X, e225_33_10]; exact e, g, bl⟩
      · obtain ⟨m', e, g, bl⟩ := lw_11 h hi
        exact ⟨m', by rw [X, e225_33_11]; exact e, g, bl⟩
      · obtain ⟨m', e, g, bl⟩ := lw_12 h hi
        exact ⟨m', by rw [X, e225_33_12]; exact e, g, bl⟩
      · obtain ⟨m', e, g, bl⟩ := lw_13 h hi
        exact ⟨m', by rw [X, e225_33_13]; exact e, g, bl⟩
      · obtain ⟨m', e, g, bl⟩ := lw_14 h hi
        exact ⟨m', by rw [X, e225_33_14]; exact e, g, bl⟩
      · obtain ⟨m', e, g, bl⟩ := lw_15 h hi
        exact ⟨m', by rw [X, e225_33_15]; exact e, g, bl⟩
      · obtain ⟨m', e, g, bl⟩ := lw_16 h hi
        exact ⟨m', by rw [X, e225_33_16]; exact e, g, bl⟩
      · obtain ⟨m', e, g, bl⟩ := lw_17 h hi
        exact ⟨m', by rw [X, e225_33_17]; exact e, g, bl⟩
      · obtain ⟨m', e, g, bl⟩ := lw_18 h hi
        exact ⟨m', by rw [X, e225_33_18]; exact e, g, bl⟩
      · obtain ⟨m', e, g, bl⟩ := lw_19 h hi
        exact ⟨m', by rw [X, e225_33_19]; exact e, g, bl⟩
      · obtain ⟨m', e, g, bl⟩ := lw_20 h hi
        exact ⟨m', by rw [X, e225_33_20]; exact e, g, bl⟩
      · obtain ⟨m', e, g, bl⟩ := lw_21 h hi
        exact ⟨m', by rw [X, e225_33_21]; exact e, g, bl⟩
      · obtain ⟨m', e, g, bl⟩ := lw_22 h hi
        exact ⟨m', by rw [X, e225_33_22]; exact e, g, bl⟩
      · obtain ⟨m', e, g, bl⟩ := lw_23 h hi
        exact ⟨m', by rw [X, e225_33_23]; exact e, g, bl⟩
      · obtain ⟨m', e, g, bl⟩ := lw_24 h hi
        exact ⟨m', by rw [X, e225_33_24]; exact e, g, bl⟩
      · obtain ⟨m', e, g, bl⟩ := lw_25 h hi
        exact ⟨m', by rw [X, e225_33_25]; exact e, g, bl⟩
      · obtain ⟨m', e, g, bl⟩ := lw_26 h hi
        exact ⟨m', by rw [X, e225_33_26]; exact e, g, bl⟩
      · obtain ⟨m', e, g, bl⟩ := lw_27 h hi
        exact ⟨m', by rw [X, e225_33_27]; exact e, g, bl⟩
      · obtain ⟨m', e, g, bl⟩ := lw_28 h hi
        exact ⟨m', by rw [X, e225_33_28]; exact e, g, bl⟩
      · obtain ⟨m', e, g, bl⟩ := lw_29 h hi
        exact ⟨m', by rw [X, e225_33_29]; exact e, g, bl⟩
      · obtain ⟨m', e, g, bl⟩ := lw_30 h hi
        exact ⟨m', by rw [X, e225_33_30]; exact e, g, bl⟩
      · obtain ⟨m', e, g, bl⟩ := lw_31 h hi
        exact ⟨m', by rw [X, e225_33_31]; exact e, g, bl⟩
      · obtain ⟨m', e, g, bl⟩ := lw_32 h hi
        exact ⟨m', by rw [X, e225_33_32]; exact e, g, bl⟩
      · obtain ⟨m', e, g, bl⟩ := lw_33 h hi
        exact ⟨m', by rw [X, e225_33_33]; exact e, g, bl⟩
      · obtain ⟨m', e, g, bl⟩ := lw_34 h hi
        exact ⟨m', by rw [X, e225_33_34]; exact e, g, bl⟩
      · obtain ⟨m', e, g, bl⟩ := lw_35 h hi
        exact ⟨m', by rw [X, e225_33_35]; exact e, g, bl⟩
      · obtain ⟨m', e, g, bl⟩ := lw_36 h hi
        exact ⟨m', by rw [X, e225_33_36]; exact e, g, bl⟩
      · obtain ⟨m', e, g, bl⟩ := lw_37 h hi
        exact ⟨m', by rw [X, e225_33_37]; exact e, g, bl⟩
  exact ⟨m', e, g, bl⟩
