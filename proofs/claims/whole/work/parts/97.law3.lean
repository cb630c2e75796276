/-! THE LAW, 3: its loop, its start -/
theorem lw_lt {L i : Nat} (hL : L ≤ 3072) (hi : i ≤ 3072) : (nI L - nI 6 < nI i) = (L < i + 6) := by
  by_cases c : 6 ≤ L
  · rw [sub_nI c, lt_nI (by omega) (by omega)]
    apply propext
    omega
  · have : L = 0 ∨ L = 1 ∨ L = 2 ∨ L = 3 ∨ L = 4 ∨ L = 5 := by omega
    have neg : nI L - nI 6 < nI 0 := by rcases this with rfl | rfl | rfl | rfl | rfl | rfl <;> decide
    have le : nI 0 ≤ nI i := Int32.not_lt.1 (fun q => by rw [lt_nI (by omega) (by omega)] at q; omega)
    apply propext
    exact ⟨fun _ => by omega, fun _ => Int32.lt_of_lt_of_le neg le⟩
theorem lw_loop {B b L : Nat} : ∀ t i (m : am_M), L < i + 6 * t + 6 → i ≤ L + 6 → i ≤ 3072 → LwS B b L m → ∃ m', ev 40 225 18 [some (.ref b), some (.ref B), some (.ref (B + 82)), some (.int (nI i))] [] m = some (some (.int (nI 1)), m') ∧ mS m' ≤ B + 600000 ∧ mN m' ≤ 7302250 := by
  intro t
  induction t with
  | zero =>
    intro i m ht hl h3 h
    obtain ⟨G, hb, hK, hL⟩ := id h
    obtain ⟨-, -, -, h1, h2⟩ := G.ks
    have lt := lw_lt hL h3
    have c : L < i + 6 := by omega
    refine ⟨m, ?_, h1, h2⟩
    simp (disch := first | (simp (disch := omega) only [am_k_some, va_rf_some, va_rf_none, tl_some, tl_none, am_clr_int, am_clr_ref, am_clr_none, am_clr_long, am_w_nil, am_w_int, am_w_ref, am_w_long, am_w_null, am_bb_0, am_bb_1, am_bb_bI, xK_sI, xR_sI, xS_sI, xN_sI, xK_sL, xR_sL, xS_sL, xN_sL, xK_sR, xR_sR, xS_sR, xN_sR, xK_sA, xR_sA, xS_sA, xN_sA, Nat.reduceAdd, Nat.reduceLeDiff, sI_sA, I_sA', sA_sA, I_sA, I_sA', nI_add, mul_nI, bI_0, bI_1, hK, ix_nI, cl_nI]; done) | omega | assumption) only [e225_18, e225_19, e225_20, e225_21, e225_23, e225_24, e225_1272, e225_1273, am_k_some, va_rf_some, va_rf_none, tl_some, tl_none, am_clr_int, am_clr_ref, am_clr_none, am_clr_long, am_w_nil, am_w_int, am_w_ref, am_w_long, am_w_null, am_bb_0, am_bb_1, am_bb_bI, xK_sI, xR_sI, xS_sI, xN_sI, xK_sL, xR_sL, xS_sL, xN_sL, xK_sR, xR_sR, xS_sR, xN_sR, xK_sA, xR_sA, xS_sA, xN_sA, Nat.reduceAdd, Nat.reduceLeDiff, sI_sA, I_sA', sA_sA, I_sA, I_sA', nI_add, mul_nI, bI_0, bI_1, hK, lt, c, ↓reduceIte]
  | succ t ih =>
    intro i m ht hl h3 h
    obtain ⟨G, hb, hK, hL⟩ := id h
    obtain ⟨-, -, -, h1, h2⟩ := G.ks
    have lt := lw_lt hL h3
    by_cases c : L < i + 6
    · refine ⟨m, ?_, h1, h2⟩
      simp (disch := first | (simp (disch := omega) only [am_k_some, va_rf_some, va_rf_none, tl_some, tl_none, am_clr_int, am_clr_ref, am_clr_none, am_clr_long, am_w_nil, am_w_int, am_w_ref, am_w_long, am_w_null, am_bb_0, am_bb_1, am_bb_bI, xK_sI, xR_sI, xS_sI, xN_sI, xK_sL, xR_sL, xS_sL, xN_sL, xK_sR, xR_sR, xS_sR, xN_sR, xK_sA, xR_sA, xS_sA, xN_sA, Nat.reduceAdd, Nat.reduceLeDiff, sI_sA, I_sA', sA_sA, I_sA, I_sA', nI_add, mul_nI, bI_0, bI_1, hK, ix_nI, cl_nI]; done) | omega | assumption) only [e225_18, e225_19, e225_20, e225_21, e225_23, e225_24, e225_1272, e225_1273, am_k_some, va_rf_some, va_rf_none, tl_some, tl_none, am_clr_int, am_clr_ref, am_clr_none, am_clr_long, am_w_nil, am_w_int, am_w_ref, am_w_long, am_w_null, am_bb_0, am_bb_1, am_bb_bI, xK_sI, xR_sI, xS_sI, xN_sI, xK_sL, xR_sL, xS_sL, xN_sL, xK_sR, xR_sR, xS_sR, xN_sR, xK_sA, xR_sA, xS_sA, xN_sA, Nat.reduceAdd, Nat.reduceLeDiff, sI_sA, I_sA', sA_sA, I_sA, I_sA', nI_add, mul_nI, bI_0, bI_1, hK, lt, c, ↓reduceIte]
    · obtain ⟨m1, e1, g1, b1⟩ := lw_one h (show i + 6 ≤ L by omega)
      have kb := (b1 b hb).1
      obtain ⟨m', e2, q1, q2⟩ := ih (i + 6) m1 (by omega) (by omega) (by omega) ⟨g1, hb, by rw [kb]; exact hK, hL⟩
      refine ⟨m', ?_, q1, q2⟩
      have X1 : ev 40 225 18 [some (.ref b), some (.ref B), some (.ref (B + 82)), some (.int (nI i))] [] m = ev 40 225 27 [some (.ref b), some (.ref B), some (.ref (B + 82)), some (.int (nI i))] [] m := by
        simp (disch := first | (simp (disch := omega) only [am_k_some, va_rf_some, va_rf_none, tl_some, tl_none, am_clr_int, am_clr_ref, am_clr_none, am_clr_long, am_w_nil, am_w_int, am_w_ref, am_w_long, am_w_null, am_bb_0, am_bb_1, am_bb_bI, xK_sI, xR_sI, xS_sI, xN_sI, xK_sL, xR_sL, xS_sL, xN_sL, xK_sR, xR_sR, xS_sR, xN_sR, xK_sA, xR_sA, xS_sA, xN_sA, Nat.reduceAdd, Nat.reduceLeDiff, sI_sA, I_sA', sA_sA, I_sA, I_sA', nI_add, mul_nI, bI_0, bI_1, hK, ix_nI, cl_nI]; done) | omega | assumption) only [e225_18, e225_19, e225_20, e225_21, e225_23, e225_24, am_k_some, va_rf_some, va_rf_none, tl_some, tl_none, am_clr_int, am_clr_ref, am_clr_none, am_clr_long, am_w_nil, am_w_int, am_w_ref, am_w_long, am_w_null, am_bb_0, am_bb_1, am_bb_bI, xK_sI, xR_sI, xS_sI, xN_sI, xK_sL, xR_sL, xS_sL, xN_sL, xK_sR, xR_sR, xS_sR, xN_sR, xK_sA, xR_sA, xS_sA, xN_sA, Nat.reduceAdd, Nat.reduceLeDiff, sI_sA, I_sA', sA_sA, I_sA, I_sA', nI_add, mul_nI, bI_0, bI_1, hK, lt, c, ↓reduceIte]
      have X2 : ev 40 225 1266 [some (.ref b), some (.ref B), some (.ref (B + 82)), some (.int (nI i))] [] m1 = ev 40 225 18 [some (.ref b), some (.ref B), some (.ref (B + 82)), some (.int (nI (i + 6)))] [] m1 := by
        simp only [e225_1266, e225_1269, am_k_some, va_rf_some, va_rf_none, tl_some, tl_none, am_clr_int, am_clr_ref, am_clr_none, am_clr_long, am_w_nil, am_w_int, am_w_ref, am_w_long, am_w_null, am_bb_0, am_bb_1, am_bb_bI, xK_sI, xR_sI, xS_sI, xN_sI, xK_sL, xR_sL, xS_sL, xN_sL, xK_sR, xR_sR, xS_sR, xN_sR, xK_sA, xR_sA, xS_sA, xN_sA, Nat.reduceAdd, Nat.reduceLeDiff, sI_sA, I_sA', sA_sA, I_sA, I_sA', nI_add, mul_nI, bI_0, bI_1]
      rw [X1, e1, X2, e2]
theorem lw_run {B b L : Nat} {xs : Nat → Int32} (hb : b < B) (hL : L ≤ 3072) : ∃ m', ev 40 225 0 [some (.ref b), none, none, none] [] (am_m0 b L B xs) = some (some (.int (nI 1)), m') ∧ mS m' ≤ B + 600000 ∧ mN m' ≤ 7302250 := by
  have s0 : mS (am_m0 b L B xs) = B := rfl
  have n0 : mN (am_m0 b L B xs) = 0 := rfl
  have kb0 : mK (am_m0 b L B xs) b = (6, 0, L) := if_pos rfl
  generalize am_m0 b L B xs = m0 at *
  obtain ⟨m1, e1, s1, n1, k1', f1⟩ := sp_89 (d := 37) (o := B) (m := nw m0 (1, 9, 0) 11) (by rw [xK_nw, if_pos s0.symm]) (by rw [xS_nw, s0]) (by rw [xI_nw, if_pos s0.symm]) (by rw [xR_nw, if_pos s0.symm])
  have n1' : mN m1 = 6738 := by rw [n1, xN_nw, n0]
  obtain ⟨m2, e2, s2, n2, k2', d2⟩ := sp_138 (d := 39) (o := B + 82) (m := nw m1 (1, 10, 0) 24) (by rw [xK_nw, if_pos s1.symm]) (by rw [xS_nw, s1]) (by rw [xI_nw, if_pos s1.symm]) (by rw [xL_nw, if_pos s1.symm])
  have ke1 : Ke B m0 m1 := (Ke.nw (by omega)).trans k1'
  have ke2 : Ke (B + 82) m1 m2 := (Ke.nw (by omega)).trans k2'
  have G : Good B m2 := good_0 f1 ke2 d2 s2 (by rw [n2, xN_nw]; omega)
  have kb2 : mK m2 b = (6, 0, L) := by rw [(ke2 b (by omega)).1, (ke1 b hb).1]; exact kb0
  obtain ⟨m', e3, q1, q2⟩ := lw_loop (B := B) (b := b) (L := L) 600 0 m2 (by omega) (by omega) (by omega) ⟨G, hb, kb2, hL⟩
  refine ⟨m', ?_, q1, q2⟩
  rw [← e3]
  simp (disch := first | (simp (disch := omega) only [am_k_some, va_rf_some, va_rf_none, tl_some, tl_none, am_clr_int, am_clr_ref, am_clr_none, am_clr_long, am_w_nil, am_w_int, am_w_ref, am_w_long, am_w_null, am_bb_0, am_bb_1, am_bb_bI, xK_sI, xR_sI, xS_sI, xN_sI, xK_sL, xR_sL, xS_sL, xN_sL, xK_sR, xR_sR, xS_sR, xN_sR, xK_sA, xR_sA, xS_sA, xN_sA, Nat.reduceAdd, Nat.reduceLeDiff, sI_sA, I_sA', sA_sA, I_sA, I_sA', nI_add, mul_nI, bI_0, bI_1, ix_nI, cl_nI]; done) | omega | assumption) only [e225_0, e225_3r, e225_4, e225_7, e225_8, e225_11r, e225_12, e225_15, e225_16, e225_17, am_k_some, va_rf_some, va_rf_none, tl_some, tl_none, am_clr_int, am_clr_ref, am_clr_none, am_clr_long, am_w_nil, am_w_int, am_w_ref, am_w_long, am_w_null, am_bb_0, am_bb_1, am_bb_bI, xK_sI, xR_sI, xS_sI, xN_sI, xK_sL, xR_sL, xS_sL, xN_sL, xK_sR, xR_sR, xS_sR, xN_sR, xK_sA, xR_sA, xS_sA, xN_sA, Nat.reduceAdd, Nat.reduceLeDiff, sI_sA, I_sA', sA_sA, I_sA, I_sA', nI_add, mul_nI, bI_0, bI_1, s0, s1, e1, e2]
