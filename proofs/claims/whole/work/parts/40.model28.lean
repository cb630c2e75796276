/-! doSail, by outcome; m1: the memory behind the first because -/
theorem beM_S (m : am_M) (M : Nat) (a b : Int32) (c : Int64) (e : Int32) : mI (beM m M a b c e) (M + 1) = mI m (M + 1) := by
  unfold beM
  rw [mI_sL, I_sA' _ _ (by omega)]
theorem beM_L (m : am_M) (M : Nat) (a b : Int32) (c : Int64) (e : Int32) : mL (beM m M a b c e) (M + 6) 0 = mL m (M + 6) 0 := by
  unfold beM
  rw [xL_sL, xL_sA, if_neg (by omega)]
theorem beM_Mo {m : am_M} {M : Nat} {a b : Int32} {c : Int64} {e : Int32} (h : Mo m M) : Mo (beM m M a b c e) M := h
theorem sp_198s {d M : Nat} {m : am_M} (h : Mo m M) (a1 : mI m (M + 1) 6501 = nI 1) : cal (d + 6) 198 [.ref M] m = some (some (.int (-2)), beM m M (nI 0) (nI 0) 0 (-1)) := by
  have q1 := fun d => sp_148 (d := d) (beM_Mo (a := nI 0) (b := nI 0) (c := 0) (e := -1) h)
  have hk : mK (beM m M (nI 0) (nI 0) 0 (-1)) M = (1, 10, 0) := h.k
  simp (disch := first | (simp (disch := omega) only [am_k_some, va_rf_some, va_rf_none, tl_some, tl_none, am_clr_int, am_clr_ref, am_clr_none, am_clr_long, am_w_nil, am_w_int, am_w_ref, am_w_long, am_w_null, am_bb_0, am_bb_1, am_bb_bI, xK_sI, xR_sI, xS_sI, xN_sI, xK_sL, xR_sL, xS_sL, xN_sL, xK_sR, xR_sR, xS_sR, xN_sR, xK_sA, xR_sA, xS_sA, xN_sA, Nat.reduceAdd, Nat.reduceLeDiff, sI_sA, I_sA', sA_sA, I_sA, I_sA', nI_add, mul_nI, bI_0, bI_1, h.k, h.r0, h.k0, h.r1, h.k1, h.r2, h.k2, h.r3, h.k3, h.r4, h.k4, h.r5, h.k5, h.r6, h.k6, h.r8, h.k8, h.r9, h.k9, h.r15, h.k15, h.r17, h.k17, h.r19, h.k19, h.r20, h.k20, h.r21, h.k21, h.r22, h.k22, h, Mo_sA, Mo_sL, ix_nI, cl_nI]; done) | omega | (simp only [I_sA]; assumption)) only [c198, e198_0, e198_1, e198_2, e198_3, e198_4, e198_5, e198_8, e198_9, e198_12, e198_15, e198_17, e198_18, e198_19, am_k_some, va_rf_some, va_rf_none, tl_some, tl_none, am_clr_int, am_clr_ref, am_clr_none, am_clr_long, am_w_nil, am_w_int, am_w_ref, am_w_long, am_w_null, am_bb_0, am_bb_1, am_bb_bI, xK_sI, xR_sI, xS_sI, xN_sI, xK_sL, xR_sL, xS_sL, xN_sL, xK_sR, xR_sR, xS_sR, xN_sR, xK_sA, xR_sA, xS_sA, xN_sA, Nat.reduceAdd, Nat.reduceLeDiff, sI_sA, I_sA', sA_sA, I_sA, I_sA', nI_add, mul_nI, bI_0, bI_1, ix_nI, cl_nI, lt_nI, eq_nI, sub_nI, Nat.reduceEqDiff, Nat.one_ne_zero, Nat.not_lt_zero, ↓reduceIte, k1, k2, k3, k4, k5, k6, k7, k8, k9, n10, n01, if_true, if_false, decide_true, decide_false, Bool.true_eq_false, Bool.false_eq_true, not_true_eq_false, not_false_eq_true, and_true, true_and, and_false, false_and, sp_197b h, q1, beM_S, h.k, hk, a1]
theorem sp_198_go {d M : Nat} {m : am_M} (h : Mo m M) (a1 : ¬ mI m (M + 1) 6501 = nI 1) : cal (d + 6) 198 [.ref M] m = ev (d + 6) 198 20 [some (.ref M), some (.int (nI 0)), none, none] [] (beM m M (nI 0) (nI 0) 0 (-1)) := by
  have q1 := fun d => sp_148 (d := d) (beM_Mo (a := nI 0) (b := nI 0) (c := 0) (e := -1) h)
  have hk : mK (beM m M (nI 0) (nI 0) 0 (-1)) M = (1, 10, 0) := h.k
  simp (disch := first | (simp (disch := omega) only [am_k_some, va_rf_some, va_rf_none, tl_some, tl_none, am_clr_int, am_clr_ref, am_clr_none, am_clr_long, am_w_nil, am_w_int, am_w_ref, am_w_long, am_w_null, am_bb_0, am_bb_1, am_bb_bI, xK_sI, xR_sI, xS_sI, xN_sI, xK_sL, xR_sL, xS_sL, xN_sL, xK_sR, xR_sR, xS_sR, xN_sR, xK_sA, xR_sA, xS_sA, xN_sA, Nat.reduceAdd, Nat.reduceLeDiff, sI_sA, I_sA', sA_sA, I_sA, I_sA', nI_add, mul_nI, bI_0, bI_1, h.k, h.r0, h.k0, h.r1, h.k1, h.r2, h.k2, h.r3, h.k3, h.r4, h.k4, h.r5, h.k5, h.r6, h.k6, h.r8, h.k8, h.r9, h.k9, h.r15, h.k15, h.r17, h.k17, h.r19, h.k19, h.r20, h.k20, h.r21, h.k21, h.r22, h.k22, h, Mo_sA, Mo_sL, ix_nI, cl_nI]; done) | omega | (simp only [I_sA]; assumption)) only [c198, e198_0, e198_1, e198_2, e198_3, e198_4, e198_5, e198_8, e198_9, e198_12, e198_15, e198_17, e198_18, e198_19, am_k_some, va_rf_some, va_rf_none, tl_some, tl_none, am_clr_int, am_clr_ref, am_clr_none, am_clr_long, am_w_nil, am_w_int, am_w_ref, am_w_long, am_w_null, am_bb_0, am_bb_1, am_bb_bI, xK_sI, xR_sI, xS_sI, xN_sI, xK_sL, xR_sL, xS_sL, xN_sL, xK_sR, xR_sR, xS_sR, xN_sR, xK_sA, xR_sA, xS_sA, xN_sA, Nat.reduceAdd, Nat.reduceLeDiff, sI_sA, I_sA', sA_sA, I_sA, I_sA', nI_add, mul_nI, bI_0, bI_1, ix_nI, cl_nI, lt_nI, eq_nI, sub_nI, Nat.reduceEqDiff, Nat.one_ne_zero, Nat.not_lt_zero, ↓reduceIte, k1, k2, k3, k4, k5, k6, k7, k8, k9, n10, n01, if_true, if_false, decide_true, decide_false, Bool.true_eq_false, Bool.false_eq_true, not_true_eq_false, not_false_eq_true, and_true, true_and, and_false, false_and, sp_197b h, q1, beM_S, h.k, hk, a1]
theorem sp_198f {d M j n : Nat} {m : am_M} (h : Mo m M) (hN : NmOk (mI m (M + 1))) (a1 : ¬ mI m (M + 1) 6501 = nI 1) (hf : fstR (farB (mI m (M + 1))) (nm (mI m (M + 1))) 0 = some j) : cal (d + 6) 198 [.ref M] m = some (some (.int (-12)), beM (beM m M (nI 0) (nI 0) 0 (-1)) M (nI j) (nI 0) 0 (-1)) := by
  have e := sp_198_a (d := d + 5) (m := beM m M (nI 0) (nI 0) 0 (-1)) (x2 := none) (x3 := none) (beM_Mo h) (by rw [beM_S]; exact hN.1) hN.2 _ 0 (Nat.zero_add _)
  rw [beM_S, hf] at e
  rw [sp_198_go h a1]
  exact e
theorem sp_198_go2 {d M : Nat} {m : am_M} (h : Mo m M) (hN : NmOk (mI m (M + 1))) (a1 : ¬ mI m (M + 1) 6501 = nI 1) (hf : fstR (farB (mI m (M + 1))) (nm (mI m (M + 1))) 0 = none) : cal (d + 6) 198 [.ref M] m = ev (d + 6) 198 79 [some (.ref M), some (.int (nI 0)), none, none] [] (beM m M (nI 0) (nI 0) 0 (-1)) := by
  have e := sp_198_a (d := d + 5) (m := beM m M (nI 0) (nI 0) 0 (-1)) (x2 := none) (x3 := none) (beM_Mo h) (by rw [beM_S]; exact hN.1) hN.2 _ 0 (Nat.zero_add _)
  rw [beM_S, hf] at e
  rw [sp_198_go h a1]
  refine e.trans ?_
  simp only [e198_77, e198_78, am_k_some, va_rf_some, va_rf_none, tl_some, tl_none, am_clr_int, am_clr_ref, am_clr_none, am_clr_long, am_w_nil, am_w_int, am_w_ref, am_w_long, am_w_null, am_bb_0, am_bb_1, am_bb_bI, xK_sI, xR_sI, xS_sI, xN_sI, xK_sL, xR_sL, xS_sL, xN_sL, xK_sR, xR_sR, xS_sR, xN_sR, xK_sA, xR_sA, xS_sA, xN_sA, Nat.reduceAdd, Nat.reduceLeDiff, sI_sA, I_sA', sA_sA, I_sA, I_sA', nI_add, mul_nI, bI_0, bI_1]
theorem sp_198l {d M j n : Nat} {m : am_M} (h : Mo m M) (hN : NmOk (mI m (M + 1))) (hA : AbOk (mI m (M + 1))) (hy : mI m (M + 1) 6503 = nI n) (hn : n ≤ 12) (a1 : ¬ mI m (M + 1) 6501 = nI 1) (hf : fstR (farB (mI m (M + 1))) (nm (mI m (M + 1))) 0 = none) (hl : fstR (leB (mI m (M + 1)) (mL m (M + 6) 0)) n 0 = some j) :
    cal (d + 6) 198 [.ref M] m = some (some (.int (-11)), leM (beM m M (nI 0) (nI 0) 0 (-1)) M (mI m (M + 1)) (mL m (M + 6) 0) j) := by
  obtain ⟨y2, y3, e⟩ := sp_198_b (d := d + 3) (m := beM m M (nI 0) (nI 0) 0 (-1)) (beM_Mo h) (by rw [beM_S]; exact hN) (by rw [beM_S]; exact hA) (by rw [beM_S]; exact hy) hn n 0 none none (Nat.zero_add _)
  rw [beM_S, beM_L, hl] at e
  rw [sp_198_go2 h hN a1 hf]
  exact e
theorem sp_198_go3 {d M n : Nat} {m : am_M} (h : Mo m M) (hL : LnOk (mI m (M + 1))) (hN : NmOk (mI m (M + 1))) (hC : CellOk (mI m (M + 1))) (hA : AbOk (mI m (M + 1))) (hy : mI m (M + 1) 6503 = nI n) (hn : n ≤ 12) (a1 : ¬ mI m (M + 1) 6501 = nI 1) (hf : fstR (farB (mI m (M + 1))) (nm (mI m (M + 1))) 0 = none) (hl : fstR (leB (mI m (M + 1)) (mL m (M + 6) 0)) n 0 = none) :
    ∃ y2 y3 : Option Value, cal (d + 6) 198 [.ref M] m = match fstR (skB (mI m (M + 1))) n 0 with | some j => some (some (.int (-13)), beM (beM m M (nI 0) (nI 0) 0 (-1)) M (nI j) (nI 0) 0 (skA (mI m (M + 1)) (nI j))) | none => ev (d + 6) 198 208 [some (.ref M), some (.int (nI n)), y2, y3] [] (beM m M (nI 0) (nI 0) 0 (-1)) := by
  obtain ⟨y2, y3, e⟩ := sp_198_b (d := d + 3) (m := beM m M (nI 0) (nI 0) 0 (-1)) (beM_Mo h) (by rw [beM_S]; exact hN) (by rw [beM_S]; exact hA) (by rw [beM_S]; exact hy) hn n 0 none none (Nat.zero_add _)
  rw [beM_S, beM_L, hl] at e
  have e2 := sp_198_c (d := d) (m := beM m M (nI 0) (nI 0) 0 (-1)) (x2 := y2) (x3 := y3) (beM_Mo h) (by rw [beM_S]; exact hL) (by rw [beM_S]; exact hN) (by rw [beM_S]; exact hC) (by rw [beM_S]; exact hy) hn n 0 (Nat.zero_add _)
  rw [beM_S] at e2
  refine ⟨y2, y3, ?_⟩
  rw [sp_198_go2 h hN a1 hf]
  refine e.trans ?_
  refine Eq.trans ?_ e2
  simp only [e198_165, e198_166, am_k_some, va_rf_some, va_rf_none, tl_some, tl_none, am_clr_int, am_clr_ref, am_clr_none, am_clr_long, am_w_nil, am_w_int, am_w_ref, am_w_long, am_w_null, am_bb_0, am_bb_1, am_bb_bI, xK_sI, xR_sI, xS_sI, xN_sI, xK_sL, xR_sL, xS_sL, xN_sL, xK_sR, xR_sR, xS_sR, xN_sR, xK_sA, xR_sA, xS_sA, xN_sA, Nat.reduceAdd, Nat.reduceLeDiff, sI_sA, I_sA', sA_sA, I_sA, I_sA', nI_add, mul_nI, bI_0, bI_1]
theorem sp_198k {d M j n : Nat} {m : am_M} (h : Mo m M) (hL : LnOk (mI m (M + 1))) (hN : NmOk (mI m (M + 1))) (hC : CellOk (mI m (M + 1))) (hA : AbOk (mI m (M + 1))) (hy : mI m (M + 1) 6503 = nI n) (hn : n ≤ 12) (a1 : ¬ mI m (M + 1) 6501 = nI 1) (hf : fstR (farB (mI m (M + 1))) (nm (mI m (M + 1))) 0 = none) (hl : fstR (leB (mI m (M + 1)) (mL m (M + 6) 0)) n 0 = none) (hs : fstR (skB (mI m (M + 1))) n 0 = some j) :
    cal (d + 6) 198 [.ref M] m = some (some (.int (-13)), beM (beM m M (nI 0) (nI 0) 0 (-1)) M (nI j) (nI 0) 0 (skA (mI m (M + 1)) (nI j))) := by
  obtain ⟨y2, y3, e⟩ := sp_198_go3 (d := d) h hL hN hC hA hy hn a1 hf hl
  rw [hs] at e
  exact e
