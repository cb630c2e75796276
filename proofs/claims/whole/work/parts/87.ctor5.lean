/-! CONSTRUCTORS, 5: the planner, the class -/
def Pn0 (b : Nat) (m : am_M) (o : Nat) : Prop := PnK m o ∧ mR m o 0 = some b
theorem bx_pn {b : Nat} : Bx 9 (Pn0 b) := fun t m m' e h => by
  simpa only [Pn0, PnK, (e t (by omega) (by omega)).1, (e t (by omega) (by omega)).2.2.2, (e (t + 1) (by omega) (by omega)).1, (e (t + 2) (by omega) (by omega)).1, (e (t + 3) (by omega) (by omega)).1, (e (t + 4) (by omega) (by omega)).1, (e (t + 5) (by omega) (by omega)).1, (e (t + 6) (by omega) (by omega)).1, (e (t + 7) (by omega) (by omega)).1, (e (t + 8) (by omega) (by omega)).1] using h
theorem sp_37 {d o b : Nat} {m : am_M} (hK : mK m o = (1, 5, 0)) (hS : mS m = o + 1) : ∃ m', cal d 37 [.ref o, .ref b] m = some (none, m') ∧ mS m' = o + 9 ∧ mN m' = mN m + 39 ∧ Ke o m m' ∧ Pn0 b m' o := by
  have w0 := mk_ar (n := 6) hS
  generalize hb0 : nw m (2, 0, 6) 6 = b0 at *
  have B0 : mK b0 o = (1, 5, 0) := by rw [(w0.2.2.1 o (by omega)).1]; exact hK
  obtain ⟨s0, n0, P0, r0, q0, v0, f0⟩ := nx_put (a := o) (j := 1) bx_ar (by omega) w0
  replace s0 : mS (sR b0 o 1 (some (o + 1))) = o + 2 := by rw [s0]
  have K0 : mK (sR b0 o 1 (some (o + 1))) o = (1, 5, 0) := by rw [v0.1]; exact hK
  have X0 : cal d 37 [.ref o, .ref b] m = ev d 37 12 [some (.ref o), some (.ref b)] [] (sR b0 o 1 (some (o + 1))) := by
    simp (disch := first | (simp (disch := omega) only [am_k_some, va_rf_some, va_rf_none, tl_some, tl_none, am_clr_int, am_clr_ref, am_clr_none, am_clr_long, am_w_nil, am_w_int, am_w_ref, am_w_long, am_w_null, am_bb_0, am_bb_1, am_bb_bI, xK_sI, xR_sI, xS_sI, xN_sI, xK_sL, xR_sL, xS_sL, xN_sL, xK_sR, xR_sR, xS_sR, xN_sR, xK_sA, xR_sA, xS_sA, xN_sA, Nat.reduceAdd, Nat.reduceLeDiff, sI_sA, I_sA', sA_sA, I_sA, I_sA', nI_add, mul_nI, bI_0, bI_1, hK, B0, K0, ix_nI, cl_nI]; done) | omega | assumption) only [c37, e37_0, e37_1, e37_4, e37_5, e37_7, e37_9, am_k_some, va_rf_some, va_rf_none, tl_some, tl_none, am_clr_int, am_clr_ref, am_clr_none, am_clr_long, am_w_nil, am_w_int, am_w_ref, am_w_long, am_w_null, am_bb_0, am_bb_1, am_bb_bI, xK_sI, xR_sI, xS_sI, xN_sI, xK_sL, xR_sL, xS_sL, xN_sL, xK_sR, xR_sR, xS_sR, xN_sR, xK_sA, xR_sA, xS_sA, xN_sA, Nat.reduceAdd, Nat.reduceLeDiff, sI_sA, I_sA', sA_sA, I_sA, I_sA', nI_add, mul_nI, bI_0, bI_1, hS, hK, B0, K0, ix_nI, cl_nI, hb0]
  generalize hc0 : sR b0 o 1 (some (o + 1)) = c0 at *
  have w1 := mk_ar (n := 6) s0
  generalize hb1 : nw c0 (2, 0, 6) 6 = b1 at *
  have B1 : mK b1 o = (1, 5, 0) := by rw [(w1.2.2.1 o (by omega)).1]; exact K0
  obtain ⟨s1, n1, P1, r1, q1, v1, f1⟩ := nx_put (a := o) (j := 2) bx_ar (by omega) w1
  replace s1 : mS (sR b1 o 2 (some (o + 2))) = o + 3 := by rw [s1]
  have K1 : mK (sR b1 o 2 (some (o + 2))) o = (1, 5, 0) := by rw [v1.1]; exact K0
  have X1 : ev d 37 12 [some (.ref o), some (.ref b)] [] c0 = ev d 37 20 [some (.ref o), some (.ref b)] [] (sR b1 o 2 (some (o + 2))) := by
    simp (disch := first | (simp (disch := omega) only [am_k_some, va_rf_some, va_rf_none, tl_some, tl_none, am_clr_int, am_clr_ref, am_clr_none, am_clr_long, am_w_nil, am_w_int, am_w_ref, am_w_long, am_w_null, am_bb_0, am_bb_1, am_bb_bI, xK_sI, xR_sI, xS_sI, xN_sI, xK_sL, xR_sL, xS_sL, xN_sL, xK_sR, xR_sR, xS_sR, xN_sR, xK_sA, xR_sA, xS_sA, xN_sA, Nat.reduceAdd, Nat.reduceLeDiff, sI_sA, I_sA', sA_sA, I_sA, I_sA', nI_add, mul_nI, bI_0, bI_1, K0, B1, K1, ix_nI, cl_nI]; done) | omega | assumption) only [e37_12, e37_13, e37_15, e37_17, am_k_some, va_rf_some, va_rf_none, tl_some, tl_none, am_clr_int, am_clr_ref, am_clr_none, am_clr_long, am_w_nil, am_w_int, am_w_ref, am_w_long, am_w_null, am_bb_0, am_bb_1, am_bb_bI, xK_sI, xR_sI, xS_sI, xN_sI, xK_sL, xR_sL, xS_sL, xN_sL, xK_sR, xR_sR, xS_sR, xN_sR, xK_sA, xR_sA, xS_sA, xN_sA, Nat.reduceAdd, Nat.reduceLeDiff, sI_sA, I_sA', sA_sA, I_sA, I_sA', nI_add, mul_nI, bI_0, bI_1, s0, K0, B1, K1, ix_nI, cl_nI, hb1]
  generalize hc1 : sR b1 o 2 (some (o + 2)) = c1 at *
  have w2 := mk_ar (n := 3) s1
  generalize hb2 : nw c1 (2, 0, 3) 3 = b2 at *
  have B2 : mK b2 o = (1, 5, 0) := by rw [(w2.2.2.1 o (by omega)).1]; exact K1
  obtain ⟨s2, n2, P2, r2, q2, v2, f2⟩ := nx_put (a := o) (j := 3) bx_ar (by omega) w2
  replace s2 : mS (sR b2 o 3 (some (o + 3))) = o + 4 := by rw [s2]
  have K2 : mK (sR b2 o 3 (some (o + 3))) o = (1, 5, 0) := by rw [v2.1]; exact K1
  have X2 : ev d 37 20 [some (.ref o), some (.ref b)] [] c1 = ev d 37 27 [some (.ref o), some (.ref b)] [] (sR b2 o 3 (some (o + 3))) := by
    simp (disch := first | (simp (disch := omega) only [am_k_some, va_rf_some, va_rf_none, tl_some, tl_none, am_clr_int, am_clr_ref, am_clr_none, am_clr_long, am_w_nil, am_w_int, am_w_ref, am_w_long, am_w_null, am_bb_0, am_bb_1, am_bb_bI, xK_sI, xR_sI, xS_sI, xN_sI, xK_sL, xR_sL, xS_sL, xN_sL, xK_sR, xR_sR, xS_sR, xN_sR, xK_sA, xR_sA, xS_sA, xN_sA, Nat.reduceAdd, Nat.reduceLeDiff, sI_sA, I_sA', sA_sA, I_sA, I_sA', nI_add, mul_nI, bI_0, bI_1, K1, B2, K2, ix_nI, cl_nI]; done) | omega | assumption) only [e37_20, e37_21, e37_22, e37_24, am_k_some, va_rf_some, va_rf_none, tl_some, tl_none, am_clr_int, am_clr_ref, am_clr_none, am_clr_long, am_w_nil, am_w_int, am_w_ref, am_w_long, am_w_null, am_bb_0, am_bb_1, am_bb_bI, xK_sI, xR_sI, xS_sI, xN_sI, xK_sL, xR_sL, xS_sL, xN_sL, xK_sR, xR_sR, xS_sR, xN_sR, xK_sA, xR_sA, xS_sA, xN_sA, Nat.reduceAdd, Nat.reduceLeDiff, sI_sA, I_sA', sA_sA, I_sA, I_sA', nI_add, mul_nI, bI_0, bI_1, s1, K1, B2, K2, ix_nI, cl_nI, hb2]
  generalize hc2 : sR b2 o 3 (some (o + 3)) = c2 at *
  have w3 := mk_ar (n := 6) s2
  generalize hb3 : nw c2 (2, 0, 6) 6 = b3 at *
  have B3 : mK b3 o = (1, 5, 0) := by rw [(w3.2.2.1 o (by omega)).1]; exact K2
  obtain ⟨s3, n3, P3, r3, q3, v3, f3⟩ := nx_put (a := o) (j := 4) bx_ar (by omega) w3
  replace s3 : mS (sR b3 o 4 (some (o + 4))) = o + 5 := by rw [s3]
  have K3 : mK (sR b3 o 4 (some (o + 4))) o = (1, 5, 0) := by rw [v3.1]; exact K2
  have X3 : ev d 37 27 [some (.ref o), some (.ref b)] [] c2 = ev d 37 35 [some (.ref o), some (.ref b)] [] (sR b3 o 4 (some (o + 4))) := by
    simp (disch := first | (simp (disch := omega) only [am_k_some, va_rf_some, va_rf_none, tl_some, tl_none, am_clr_int, am_clr_ref, am_clr_none, am_clr_long, am_w_nil, am_w_int, am_w_ref, am_w_long, am_w_null, am_bb_0, am_bb_1, am_bb_bI, xK_sI, xR_sI, xS_sI, xN_sI, xK_sL, xR_sL, xS_sL, xN_sL, xK_sR, xR_sR, xS_sR, xN_sR, xK_sA, xR_sA, xS_sA, xN_sA, Nat.reduceAdd, Nat.reduceLeDiff, sI_sA, I_sA', sA_sA, I_sA, I_sA', nI_add, mul_nI, bI_0, bI_1, K2, B3, K3, ix_nI, cl_nI]; done) | omega | assumption) only [e37_27, e37_28, e37_30, e37_32, am_k_some, va_rf_some, va_rf_none, tl_some, tl_none, am_clr_int, am_clr_ref, am_clr_none, am_clr_long, am_w_nil, am_w_int, am_w_ref, am_w_long, am_w_null, am_bb_0, am_bb_1, am_bb_bI, xK_sI, xR_sI, xS_sI, xN_sI, xK_sL, xR_sL, xS_sL, xN_sL, xK_sR, xR_sR, xS_sR, xN_sR, xK_sA, xR_sA, xS_sA, xN_sA, Nat.reduceAdd, Nat.reduceLeDiff, sI_sA, I_sA', sA_sA, I_sA, I_sA', nI_add, mul_nI, bI_0, bI_1, s2, K2, B3, K3, ix_nI, cl_nI, hb3]
  generalize hc3 : sR b3 o 4 (some (o + 4)) = c3 at *
  have w4 := mk_ar (n := 3) s3
  generalize hb4 : nw c3 (2, 0, 3) 3 = b4 at *
  have B4 : mK b4 o = (1, 5, 0) := by rw [(w4.2.2.1 o (by omega)).1]; exact K3
  obtain ⟨s4, n4, P4, r4, q4, v4, f4⟩ := nx_put (a := o) (j := 5) bx_ar (by omega) w4
  replace s4 : mS (sR b4 o 5 (some (o + 5))) = o + 6 := by rw [s4]
  have K4 : mK (sR b4 o 5 (some (o + 5))) o = (1, 5, 0) := by rw [v4.1]; exact K3
  have X4 : ev d 37 35 [some (.ref o), some (.ref b)] [] c3 = ev d 37 42 [some (.ref o), some (.ref b)] [] (sR b4 o 5 (some (o + 5))) := by
    simp (disch := first | (simp (disch := omega) only [am_k_some, va_rf_some, va_rf_none, tl_some, tl_none, am_clr_int, am_clr_ref, am_clr_none, am_clr_long, am_w_nil, am_w_int, am_w_ref, am_w_long, am_w_null, am_bb_0, am_bb_1, am_bb_bI, xK_sI, xR_sI, xS_sI, xN_sI, xK_sL, xR_sL, xS_sL, xN_sL, xK_sR, xR_sR, xS_sR, xN_sR, xK_sA, xR_sA, xS_sA, xN_sA, Nat.reduceAdd, Nat.reduceLeDiff, sI_sA, I_sA', sA_sA, I_sA, I_sA', nI_add, mul_nI, bI_0, bI_1, K3, B4, K4, ix_nI, cl_nI]; done) | omega | assumption) only [e37_35, e37_36, e37_37, e37_39, am_k_some, va_rf_some, va_rf_none, tl_some, tl_none, am_clr_int, am_clr_ref, am_clr_none, am_clr_long, am_w_nil, am_w_int, am_w_ref, am_w_long, am_w_null, am_bb_0, am_bb_1, am_bb_bI, xK_sI, xR_sI, xS_sI, xN_sI, xK_sL, xR_sL, xS_sL, xN_sL, xK_sR, xR_sR, xS_sR, xN_sR, xK_sA, xR_sA, xS_sA, xN_sA, Nat.reduceAdd, Nat.reduceLeDiff, sI_sA, I_sA', sA_sA, I_sA, I_sA', nI_add, mul_nI, bI_0, bI_1, s3, K3, B4, K4, ix_nI, cl_nI, hb4]
  generalize hc4 : sR b4 o 5 (some (o + 5)) = c4 at *
  have w5 := mk_ar (n := 3) s4
  generalize hb5 : nw c4 (2, 0, 3) 3 = b5 at *
  have B5 : mK b5 o = (1, 5, 0) := by rw [(w5.2.2.1 o (by omega)).1]; exact K4
  obtain ⟨s5, n5, P5, r5, q5, v5, f5⟩ := nx_put (a := o) (j := 6) bx_ar (by omega) w5
  replace s5 : mS (sR b5 o 6 (some (o + 6))) = o + 7 := by rw [s5]
  have K5 : mK (sR b5 o 6 (some (o + 6))) o = (1, 5, 0) := by rw [v5.1]; exact K4
  have X5 : ev d 37 42 [some (.ref o), some (.ref b)] [] c4 = ev d 37 49 [some (.ref o), some (.ref b)] [] (sR b5 o 6 (some (o + 6))) := by
    simp (disch := first | (simp (disch := omega) only [am_k_some, va_rf_some, va_rf_none, tl_some, tl_none, am_clr_int, am_clr_ref, am_clr_none, am_clr_long, am_w_nil, am_w_int, am_w_ref, am_w_long, am_w_null, am_bb_0, am_bb_1, am_bb_bI, xK_sI, xR_sI, xS_sI, xN_sI, xK_sL, xR_sL, xS_sL, xN_sL, xK_sR, xR_sR, xS_sR, xN_sR, xK_sA, xR_sA, xS_sA, xN_sA, Nat.reduceAdd, Nat.reduceLeDiff, sI_sA, I_sA', sA_sA, I_sA, I_sA', nI_add, mul_nI, bI_0, bI_1, K4, B5, K5, ix_nI, cl_nI]; done) | omega | assumption) only [e37_42, e37_43, e37_44, e37_46, am_k_some, va_rf_some, va_rf_none, tl_some, tl_none, am_clr_int, am_clr_ref, am_clr_none, am_clr_long, am_w_nil, am_w_int, am_w_ref, am_w_long, am_w_null, am_bb_0, am_bb_1, am_bb_bI, xK_sI, xR_sI, xS_sI, xN_sI, xK_sL, xR_sL, xS_sL, xN_sL, xK_sR, xR_sR, xS_sR, xN_sR, xK_sA, xR_sA, xS_sA, xN_sA, Nat.reduceAdd, Nat.reduceLeDiff, sI_sA, I_sA', sA_sA, I_sA, I_sA', nI_add, mul_nI, bI_0, bI_1, s4, K4, B5, K5, ix_nI, cl_nI, hb5]
  generalize hc5 : sR b5 o 6 (some (o + 6)) = c5 at *
  have w6 := mk_ar (n := 6) s5
  generalize hb6 : nw c5 (2, 0, 6) 6 = b6 at *
  have B6 : mK b6 o = (1, 5, 0) := by rw [(w6.2.2.1 o (by omega)).1]; exact K5
  obtain ⟨s6, n6, P6, r6, q6, v6, f6⟩ := nx_put (a := o) (j := 7) bx_ar (by omega) w6
  replace s6 : mS (sR b6 o 7 (some (o + 7))) = o + 8 := by rw [s6]
  have K6 : mK (sR b6 o 7 (some (o + 7))) o = (1, 5, 0) := by rw [v6.1]; exact K5
  have X6 : ev d 37 49 [some (.ref o), some (.ref b)] [] c5 = ev d 37 57 [some (.ref o), some (.ref b)] [] (sR b6 o 7 (some (o + 7))) := by
    simp (disch := first | (simp (disch := omega) only [am_k_some, va_rf_some, va_rf_none, tl_some, tl_none, am_clr_int, am_clr_ref, am_clr_none, am_clr_long, am_w_nil, am_w_int, am_w_ref, am_w_long, am_w_null, am_bb_0, am_bb_1, am_bb_bI, xK_sI, xR_sI, xS_sI, xN_sI, xK_sL, xR_sL, xS_sL, xN_sL, xK_sR, xR_sR, xS_sR, xN_sR, xK_sA, xR_sA, xS_sA, xN_sA, Nat.reduceAdd, Nat.reduceLeDiff, sI_sA, I_sA', sA_sA, I_sA, I_sA', nI_add, mul_nI, bI_0, bI_1, K5, B6, K6, ix_nI, cl_nI]; done) | omega | assumption) only [e37_49, e37_50, e37_52, e37_54, am_k_some, va_rf_some, va_rf_none, tl_some, tl_none, am_clr_int, am_clr_ref, am_clr_none, am_clr_long, am_w_nil, am_w_int, am_w_ref, am_w_long, am_w_null, am_bb_0, am_bb_1, am_bb_bI, xK_sI, xR_sI, xS_sI, xN_sI, xK_sL, xR_sL, xS_sL, xN_sL, xK_sR, xR_sR, xS_sR, xN_sR, xK_sA, xR_sA, xS_sA, xN_sA, Nat.reduceAdd, Nat.reduceLeDiff, sI_sA, I_sA', sA_sA, I_sA, I_sA', nI_add, mul_nI, bI_0, bI_1, s5, K5, B6, K6, ix_nI, cl_nI, hb6]
  generalize hc6 : sR b6 o 7 (some (o + 7)) = c6 at *
  have w7 := mk_ar (n := 6) s6
  generalize hb7 : nw c6 (2, 0, 6) 6 = b7 at *
  have B7 : mK b7 o = (1, 5, 0) := by rw [(w7.2.2.1 o (by omega)).1]; exact K6
  obtain ⟨s7, n7, P7, r7, q7, v7, f7⟩ := nx_put (a := o) (j := 8) bx_ar (by omega) w7
  replace s7 : mS (sR b7 o 8 (some (o + 8))) = o + 9 := by rw [s7]
  have K7 : mK (sR b7 o 8 (some (o + 8))) o = (1, 5, 0) := by rw [v7.1]; exact K6
  have X7 : ev d 37 57 [some (.ref o), some (.ref b)] [] c6 = ev d 37 65 [some (.ref o), some (.ref b)] [] (sR b7 o 8 (some (o + 8))) := by
    simp (disch := first | (simp (disch := omega) only [am_k_some, va_rf_some, va_rf_none, tl_some, tl_none, am_clr_int, am_clr_ref, am_clr_none, am_clr_long, am_w_nil, am_w_int, am_w_ref, am_w_long, am_w_null, am_bb_0, am_bb_1, am_bb_bI, xK_sI, xR_sI, xS_sI, xN_sI, xK_sL, xR_sL, xS_sL, xN_sL, xK_sR, xR_sR, xS_sR, xN_sR, xK_sA, xR_sA, xS_sA, xN_sA, Nat.reduceAdd, Nat.reduceLeDiff, sI_sA, I_sA', sA_sA, I_sA, I_sA', nI_add, mul_nI, bI_0, bI_1, K6, B7, K7, ix_nI, cl_nI]; done) | omega | assumption) only [e37_57, e37_58, e37_60, e37_62, am_k_some, va_rf_some, va_rf_none, tl_some, tl_none, am_clr_int, am_clr_ref, am_clr_none, am_clr_long, am_w_nil, am_w_int, am_w_ref, am_w_long, am_w_null, am_bb_0, am_bb_1, am_bb_bI, xK_sI, xR_sI, xS_sI, xN_sI, xK_sL, xR_sL, xS_sL, xN_sL, xK_sR, xR_sR, xS_sR, xN_sR, xK_sA, xR_sA, xS_sA, xN_sA, Nat.reduceAdd, Nat.reduceLeDiff, sI_sA, I_sA', sA_sA, I_sA, I_sA', nI_add, mul_nI, bI_0, bI_1, s6, K6, B7, K7, ix_nI, cl_nI, hb7]
  generalize hc7 : sR b7 o 8 (some (o + 8)) = c7 at *
  refine ⟨sR c7 o 0 (some b), ?_, by rw [xS_sR, s7], by rw [xN_sR]; omega, ?_, ?_⟩
  · rw [X0, X1, X2, X3, X4, X5, X6, X7]
    simp (disch := assumption) only [e37_65, e37_66, e37_67, e37_70, am_k_some, va_rf_some, va_rf_none, tl_some, tl_none, am_clr_int, am_clr_ref, am_clr_none, am_clr_long, am_w_nil, am_w_int, am_w_ref, am_w_long, am_w_null, am_bb_0, am_bb_1, am_bb_bI, xK_sI, xR_sI, xS_sI, xN_sI, xK_sL, xR_sL, xS_sL, xN_sL, xK_sR, xR_sR, xS_sR, xN_sR, xK_sA, xR_sA, xS_sA, xN_sA, Nat.reduceAdd, Nat.reduceLeDiff, sI_sA, I_sA', sA_sA, I_sA, I_sA', nI_add, mul_nI, bI_0, bI_1]
  · refine Ke.trans (fun x hx => ?_) (Ke.sR (Nat.le_refl o))
    exact Sa.trans (f0 x (by omega) (by omega)) (Sa.trans (f1 x (by omega) (by omega)) (Sa.trans (f2 x (by omega) (by omega)) (Sa.trans (f3 x (by omega) (by omega)) (Sa.trans (f4 x (by omega) (by omega)) (Sa.trans (f5 x (by omega) (by omega)) (Sa.trans (f6 x (by omega) (by omega)) (f7 x (by omega) (by omega))))))))
  · refine ⟨⟨by rw [xK_sR]; exact K7, ?_, ?_, ?_, ?_, ?_, ?_, ?_, ?_, ?_, ?_, ?_, ?_, ?_, ?_, ?_, ?_⟩, by rw [xR_sR, if_pos ⟨rfl, rfl⟩]⟩
    · rw [xR_sR, if_neg (by omega), q7 1 (by omega), q6 1 (by omega), q5 1 (by omega), q4 1 (by omega), q3 1 (by omega), q2 1 (by omega), q1 1 (by omega)]; exact r0
    · rw [xK_sR, (f7 (o + 1) (by omega) (by omega)).1, (f6 (o + 1) (by omega) (by omega)).1, (f5 (o + 1) (by omega) (by omega)).1, (f4 (o + 1) (by omega) (by omega)).1, (f3 (o + 1) (by omega) (by omega)).1, (f2 (o + 1) (by omega) (by omega)).1, (f1 (o + 1) (by omega) (by omega)).1]; exact P0.1
    · rw [xR_sR, if_neg (by omega), q7 2 (by omega), q6 2 (by omega), q5 2 (by omega), q4 2 (by omega), q3 2 (by omega), q2 2 (by omega)]; exact r1
    · rw [xK_sR, (f7 (o + 2) (by omega) (by omega)).1, (f6 (o + 2) (by omega) (by omega)).1, (f5 (o + 2) (by omega) (by omega)).1, (f4 (o + 2) (by omega) (by omega)).1, (f3 (o + 2) (by omega) (by omega)).1, (f2 (o + 2) (by omega) (by omega)).1]; exact P1.1
    · rw [xR_sR, if_neg (by omega), q7 3 (by omega), q6 3 (by omega), q5 3 (by omega), q4 3 (by omega), q3 3 (by omega)]; exact r2
    · rw [xK_sR, (f7 (o + 3) (by omega) (by omega)).1, (f6 (o + 3) (by omega) (by omega)).1, (f5 (o + 3) (by omega) (by omega)).1, (f4 (o + 3) (by omega) (by omega)).1, (f3 (o + 3) (by omega) (by omega)).1]; exact P2.1
    · rw [xR_sR, if_neg (by omega), q7 4 (by omega), q6 4 (by omega), q5 4 (by omega), q4 4 (by omega)]; exact r3
    · rw [xK_sR, (f7 (o + 4) (by omega) (by omega)).1, (f6 (o + 4) (by omega) (by omega)).1, (f5 (o + 4) (by omega) (by omega)).1, (f4 (o + 4) (by omega) (by omega)).1]; exact P3.1
    · rw [xR_sR, if_neg (by omega), q7 5 (by omega), q6 5 (by omega), q5 5 (by omega)]; exact r4
    · rw [xK_sR, (f7 (o + 5) (by omega) (by omega)).1, (f6 (o + 5) (by omega) (by omega)).1, (f5 (o + 5) (by omega) (by omega)).1]; exact P4.1
    · rw [xR_sR, if_neg (by omega), q7 6 (by omega), q6 6 (by omega)]; exact r5
    · rw [xK_sR, (f7 (o + 6) (by omega) (by omega)).1, (f6 (o + 6) (by omega) (by omega)).1]; exact P5.1
    · rw [xR_sR, if_neg (by omega), q7 7 (by omega)]; exact r6
    · rw [xK_sR, (f7 (o + 7) (by omega) (by omega)).1]; exact P6.1
    · rw [xR_sR, if_neg (by omega)]; exact r7
    · rw [xK_sR]; exact P7.1
theorem mk_37 {d t b : Nat} {m : am_M} (hS : mS m = t) : ∃ m', cal d 37 [.ref t, .ref b] (nw m (1, 5, 0) 12) = some (none, m') ∧ Nx 9 51 (Pn0 b) t m m' := by
  obtain ⟨m', e, s, w, k, q⟩ := sp_37 (d := d) (o := t) (b := b) (m := nw m (1, 5, 0) 12) (by rw [xK_nw, if_pos hS.symm]) (by rw [xS_nw, hS])
  exact ⟨m', e, by rw [s], by rw [w, xN_nw], (Ke.nw (by omega)).trans k, q⟩
/-- the class as it is made -/
def Fd0 (m : am_M) (o : Nat) : Prop := FdK m o ∧ Sh0 m (o + 1) ∧ mI m (o + 79) = (fun _ => 0) ∧ mI m (o + 80) = (fun _ => 0) ∧ mI m (o + 81) = (fun _ => 0) ∧ mI m o = (fun _ => 0) ∧ Re0 m (o + 77) ∧ mR m (o + 76) = (fun _ => none) ∧ mR m o 3 = none
theorem sp_89 {d o : Nat} {m : am_M} (hK : mK m o = (1, 9, 0)) (hS : mS m = o + 1) (hz : mI m o = (fun _ => 0)) (hr : mR m o 3 = none) : ∃ m', cal (d + 2) 89 [.ref o] m = some (none, m') ∧ mS m' = o + 82 ∧ mN m' = mN m + 6727 ∧ Ke o m m' ∧ Fd0 m' o := by
  obtain ⟨b0, e0, w0⟩ := mk_63 (d := d) (t := o + 1) (m := m) hS
  have B0 : mK b0 o = (1, 9, 0) := by rw [(w0.2.2.1 o (by omega)).1]; exact hK
  obtain ⟨s0, n0, P0, r0, q0, v0, f0⟩ := nx_put (a := o) (j := 0) bx_sh (by omega) w0
  replace s0 : mS (sR b0 o 0 (some (o + 1))) = o + 67 := by rw [s0]
  have K0 : mK (sR b0 o 0 (some (o + 1))) o = (1, 9, 0) := by rw [v0.1]; exact hK
  have X0 : cal (d + 2) 89 [.ref o] m = ev (d + 2) 89 15 [some (.ref o)] [] (sR b0 o 0 (some (o + 1))) := by
    simp (disch := first | (simp (disch := omega) only [am_k_some, va_rf_some, va_rf_none, tl_some, tl_none, am_clr_int, am_clr_ref, am_clr_none, am_clr_long, am_w_nil, am_w_int, am_w_ref, am_w_long, am_w_null, am_bb_0, am_bb_1, am_bb_bI, xK_sI, xR_sI, xS_sI, xN_sI, xK_sL, xR_sL, xS_sL, xN_sL, xK_sR, xR_sR, xS_sR, xN_sR, xK_sA, xR_sA, xS_sA, xN_sA, Nat.reduceAdd, Nat.reduceLeDiff, sI_sA, I_sA', sA_sA, I_sA, I_sA', nI_add, mul_nI, bI_0, bI_1, hK, B0, K0, ix_nI, cl_nI]; done) | omega | assumption) only [c89, e89_0, e89_1, e89_4, e89_5, e89_8, e89_8r, e89_9, e89_12, am_k_some, va_rf_some, va_rf_none, tl_some, tl_none, am_clr_int, am_clr_ref, am_clr_none, am_clr_long, am_w_nil, am_w_int, am_w_ref, am_w_long, am_w_null, am_bb_0, am_bb_1, am_bb_bI, xK_sI, xR_sI, xS_sI, xN_sI, xK_sL, xR_sL, xS_sL, xN_sL, xK_sR, xR_sR, xS_sR, xN_sR, xK_sA, xR_sA, xS_sA, xN_sA, Nat.reduceAdd, Nat.reduceLeDiff, sI_sA, I_sA', sA_sA, I_sA, I_sA', nI_add, mul_nI, bI_0, bI_1, hS, hK, B0, K0, ix_nI, cl_nI, e0]
  generalize hc0 : sR b0 o 0 (some (o + 1)) = c0 at *
  obtain ⟨b1, e1, w1⟩ := mk_37 (d := d + 1) (b := o + 1) (t := o + 67) (m := c0) s0
  have B1 : mK b1 o = (1, 9, 0) := by rw [(w1.2.2.1 o (by omega)).1]; exact K0
  obtain ⟨s1, n1, P1, r1, q1, v1, f1⟩ := nx_put (a := o) (j := 1) bx_pn (by omega) w1
  replace s1 : mS (sR b1 o 1 (some (o + 67))) = o + 76 := by rw [s1]
  have K1 : mK (sR b1 o 1 (some (o + 67))) o = (1, 9, 0) := by rw [v1.1]; exact K0
  have N1 : mK (nw c0 (1, 5, 0) 12) o = (1, 9, 0) := by rw [xK_nw, if_neg (by omega)]; exact K0
  have N2 : mR (nw c0 (1, 5, 0) 12) o 0 = some (o + 1) := by rw [xR_nw, if_neg (by omega)]; exact r0
  have X1 : ev (d + 2) 89 15 [some (.ref o)] [] c0 = ev (d + 2) 89 30 [some (.ref o)] [] (sR b1 o 1 (some (o + 67))) := by
    simp (disch := first | (simp (disch := omega) only [am_k_some, va_rf_some, va_rf_none, tl_some, tl_none, am_clr_int, am_clr_ref, am_clr_none, am_clr_long, am_w_nil, am_w_int, am_w_ref, am_w_long, am_w_null, am_bb_0, am_bb_1, am_bb_bI, xK_sI, xR_sI, xS_sI, xN_sI, xK_sL, xR_sL, xS_sL, xN_sL, xK_sR, xR_sR, xS_sR, xN_sR, xK_sA, xR_sA, xS_sA, xN_sA, Nat.reduceAdd, Nat.reduceLeDiff, sI_sA, I_sA', sA_sA, I_sA, I_sA', nI_add, mul_nI, bI_0, bI_1, K0, B1, K1, N1, N2, ix_nI, cl_nI]; done) | omega | assumption) only [e89_15, e89_16, e89_19, e89_19r, e89_20, e89_21, e89_24, e89_27, am_k_some, va_rf_some, va_rf_none, tl_some, tl_none, am_clr_int, am_clr_ref, am_clr_none, am_clr_long, am_w_nil, am_w_int, am_w_ref, am_w_long, am_w_null, am_bb_0, am_bb_1, am_bb_bI, xK_sI, xR_sI, xS_sI, xN_sI, xK_sL, xR_sL, xS_sL, xN_sL, xK_sR, xR_sR, xS_sR, xN_sR, xK_sA, xR_sA, xS_sA, xN_sA, Nat.reduceAdd, Nat.reduceLeDiff, sI_sA, I_sA', sA_sA, I_sA, I_sA', nI_add, mul_nI, bI_0, bI_1, s0, K0, B1, K1, N1, N2, ix_nI, cl_nI, e1]
  generalize hc1 : sR b1 o 1 (some (o + 67)) = c1 at *
  have w2 := mk_kp s1
  generalize hb2 : nw c1 (5, 8, 2) 2 = b2 at *
  have B2 : mK b2 o = (1, 9, 0) := by rw [(w2.2.2.1 o (by omega)).1]; exact K1
  obtain ⟨s2, n2, P2, r2, q2, v2, f2⟩ := nx_put (a := o) (j := 2) bx_kp (by omega) w2
  replace s2 : mS (sR b2 o 2 (some (o + 76))) = o + 77 := by rw [s2]
  have K2 : mK (sR b2 o 2 (some (o + 76))) o = (1, 9, 0) := by rw [v2.1]; exact K1
  have X2 : ev (d + 2) 89 30 [some (.ref o)] [] c1 = ev (d + 2) 89 38 [some (.ref o)] [] (sR b2 o 2 (some (o + 76))) := by
    simp (disch := first | (simp (disch := omega) only [am_k_some, va_rf_some, va_rf_none, tl_some, tl_none, am_clr_int, am_clr_ref, am_clr_none, am_clr_long, am_w_nil, am_w_int, am_w_ref, am_w_long, am_w_null, am_bb_0, am_bb_1, am_bb_bI, xK_sI, xR_sI, xS_sI, xN_sI, xK_sL, xR_sL, xS_sL, xN_sL, xK_sR, xR_sR, xS_sR, xN_sR, xK_sA, xR_sA, xS_sA, xN_sA, Nat.reduceAdd, Nat.reduceLeDiff, sI_sA, I_sA', sA_sA, I_sA, I_sA', nI_add, mul_nI, bI_0, bI_1, K1, B2, K2, ix_nI, cl_nI]; done) | omega | assumption) only [e89_30, e89_31, e89_32, e89_35, am_k_some, va_rf_some, va_rf_none, tl_some, tl_none, am_clr_int, am_clr_ref, am_clr_none, am_clr_long, am_w_nil, am_w_int, am_w_ref, am_w_long, am_w_null, am_bb_0, am_bb_1, am_bb_bI, xK_sI, xR_sI, xS_sI, xN_sI, xK_sL, xR_sL, xS_sL, xN_sL, xK_sR, xR_sR, xS_sR, xN_sR, xK_sA, xR_sA, xS_sA, xN_sA, Nat.reduceAdd, Nat.reduceLeDiff, sI_sA, I_sA', sA_sA, I_sA, I_sA', nI_add, mul_nI, bI_0, bI_1, s1, K1, B2, K2, ix_nI, cl_nI, hb2]
  generalize hc2 : sR b2 o 2 (some (o + 76)) = c2 at *
  obtain ⟨b3, e3, w3⟩ := mk_56 (d := d + 1) (t := o + 77) (m := c2) s2
  have B3 : mK b3 o = (1, 9, 0) := by rw [(w3.2.2.1 o (by omega)).1]; exact K2
  obtain ⟨s3, n3, P3, r3, q3, v3, f3⟩ := nx_put (a := o) (j := 4) bx_re (by omega) w3
  replace s3 : mS (sR b3 o 4 (some (o + 77))) = o + 78 := by rw [s3]
  have K3 : mK (sR b3 o 4 (some (o + 77))) o = (1, 9, 0) := by rw [v3.1]; exact K2
  have X3 : ev (d + 2) 89 38 [some (.ref o)] [] c2 = ev (d + 2) 89 49 [some (.ref o)] [] (sR b3 o 4 (some (o + 77))) := by
    simp (disch := first | (simp (disch := omega) only [am_k_some, va_rf_some, va_rf_none, tl_some, tl_none, am_clr_int, am_clr_ref, am_clr_none, am_clr_long, am_w_nil, am_w_int, am_w_ref, am_w_long, am_w_null, am_bb_0, am_bb_1, am_bb_bI, xK_sI, xR_sI, xS_sI, xN_sI, xK_sL, xR_sL, xS_sL, xN_sL, xK_sR, xR_sR, xS_sR, xN_sR, xK_sA, xR_sA, xS_sA, xN_sA, Nat.reduceAdd, Nat.reduceLeDiff, sI_sA, I_sA', sA_sA, I_sA, I_sA', nI_add, mul_nI, bI_0, bI_1, K2, B3, K3, ix_nI, cl_nI]; done) | omega | assumption) only [e89_38, e89_39, e89_42, e89_42r, e89_43, e89_46, am_k_some, va_rf_some, va_rf_none, tl_some, tl_none, am_clr_int, am_clr_ref, am_clr_none, am_clr_long, am_w_nil, am_w_int, am_w_ref, am_w_long, am_w_null, am_bb_0, am_bb_1, am_bb_bI, xK_sI, xR_sI, xS_sI, xN_sI, xK_sL, xR_sL, xS_sL, xN_sL, xK_sR, xR_sR, xS_sR, xN_sR, xK_sA, xR_sA, xS_sA, xN_sA, Nat.reduceAdd, Nat.reduceLeDiff, sI_sA, I_sA', sA_sA, I_sA, I_sA', nI_add, mul_nI, bI_0, bI_1, s2, K2, B3, K3, ix_nI, cl_nI, e3]
  generalize hc3 : sR b3 o 4 (some (o + 77)) = c3 at *
  obtain ⟨b4, e4, w4⟩ := mk_56 (d := d + 1) (t := o + 78) (m := c3) s3
  have B4 : mK b4 o = (1, 9, 0) := by rw [(w4.2.2.1 o (by omega)).1]; exact K3
  obtain ⟨s4, n4, P4, r4, q4, v4, f4⟩ := nx_put (a := o) (j := 5) bx_re (by omega) w4
  replace s4 : mS (sR b4 o 5 (some (o + 78))) = o + 79 := by rw [s4]
  have K4 : mK (sR b4 o 5 (some (o + 78))) o = (1, 9, 0) := by rw [v4.1]; exact K3
  have X4 : ev (d + 2) 89 49 [some (.ref o)] [] c3 = ev (d + 2) 89 60 [some (.ref o)] [] (sR b4 o 5 (some (o + 78))) := by
    simp (disch := first | (simp (disch := omega) only [am_k_some, va_rf_some, va_rf_none, tl_some, tl_none, am_clr_int, am_clr_ref, am_clr_none, am_clr_long, am_w_nil, am_w_int, am_w_ref, am_w_long, am_w_null, am_bb_0, am_bb_1, am_bb_bI, xK_sI, xR_sI, xS_sI, xN_sI, xK_sL, xR_sL, xS_sL, xN_sL, xK_sR, xR_sR, xS_sR, xN_sR, xK_sA, xR_sA, xS_sA, xN_sA, Nat.reduceAdd, Nat.reduceLeDiff, sI_sA, I_sA', sA_sA, I_sA, I_sA', nI_add, mul_nI, bI_0, bI_1, K3, B4, K4, ix_nI, cl_nI]; done) | omega | assumption) only [e89_49, e89_50, e89_53, e89_53r, e89_54, e89_57, am_k_some, va_rf_some, va_rf_none, tl_some, tl_none, am_clr_int, am_clr_ref, am_clr_none, am_clr_long, am_w_nil, am_w_int, am_w_ref, am_w_long, am_w_null, am_bb_0, am_bb_1, am_bb_bI, xK_sI, xR_sI, xS_sI, xN_sI, xK_sL, xR_sL, xS_sL, xN_sL, xK_sR, xR_sR, xS_sR, xN_sR, xK_sA, xR_sA, xS_sA, xN_sA, Nat.reduceAdd, Nat.reduceLeDiff, sI_sA, I_sA', sA_sA, I_sA, I_sA', nI_add, mul_nI, bI_0, bI_1, s3, K3, B4, K4, ix_nI, cl_nI, e4]
  generalize hc4 : sR b4 o 5 (some (o + 78)) = c4 at *
  have w5 := mk_ar (n := 40) s4
  generalize hb5 : nw c4 (2, 0, 40) 40 = b5 at *
  have B5 : mK b5 o = (1, 9, 0) := by rw [(w5.2.2.1 o (by omega)).1]; exact K4
  obtain ⟨s5, n5, P5, r5, q5, v5, f5⟩ := nx_put (a := o) (j := 6) bx_ar (by omega) w5
  replace s5 : mS (sR b5 o 6 (some (o + 79))) = o + 80 := by rw [s5]
  have K5 : mK (sR b5 o 6 (some (o + 79))) o = (1, 9, 0) := by rw [v5.1]; exact K4
  have X5 : ev (d + 2) 89 60 [some (.ref o)] [] c4 = ev (d + 2) 89 68 [some (.ref o)] [] (sR b5 o 6 (some (o + 79))) := by
    simp (disch := first | (simp (disch := omega) only [am_k_some, va_rf_some, va_rf_none, tl_some, tl_none, am_clr_int, am_clr_ref, am_clr_none, am_clr_long, am_w_nil, am_w_int, am_w_ref, am_w_long, am_w_null, am_bb_0, am_bb_1, am_bb_bI, xK_sI, xR_sI, xS_sI, xN_sI, xK_sL, xR_sL, xS_sL, xN_sL, xK_sR, xR_sR, xS_sR, xN_sR, xK_sA, xR_sA, xS_sA, xN_sA, Nat.reduceAdd, Nat.reduceLeDiff, sI_sA, I_sA', sA_sA, I_sA, I_sA', nI_add, mul_nI, bI_0, bI_1, K4, B5, K5, ix_nI, cl_nI]; done) | omega | assumption) only [e89_60, e89_61, e89_63, e89_65, am_k_some, va_rf_some, va_rf_none, tl_some, tl_none, am_clr_int, am_clr_ref, am_clr_none, am_clr_long, am_w_nil, am_w_int, am_w_ref, am_w_long, am_w_null, am_bb_0, am_bb_1, am_bb_bI, xK_sI, xR_sI, xS_sI, xN_sI, xK_sL, xR_sL, xS_sL, xN_sL, xK_sR, xR_sR, xS_sR, xN_sR, xK_sA, xR_sA, xS_sA, xN_sA, Nat.reduceAdd, Nat.reduceLeDiff, sI_sA, I_sA', sA_sA, I_sA, I_sA', nI_add, mul_nI, bI_0, bI_1, s4, K4, B5, K5, ix_nI, cl_nI, hb5]
  generalize hc5 : sR b5 o 6 (some (o + 79)) = c5 at *
  have w6 := mk_ar (n := 800) s5
  generalize hb6 : nw c5 (2, 0, 800) 800 = b6 at *
  have B6 : mK b6 o = (1, 9, 0) := by rw [(w6.2.2.1 o (by omega)).1]; exact K5
  obtain ⟨s6, n6, P6, r6, q6, v6, f6⟩ := nx_put (a := o) (j := 7) bx_ar (by omega) w6
  replace s6 : mS (sR b6 o 7 (some (o + 80))) = o + 81 := by rw [s6]
  have K6 : mK (sR b6 o 7 (some (o + 80))) o = (1, 9, 0) := by rw [v6.1]; exact K5
  have X6 : ev (d + 2) 89 68 [some (.ref o)] [] c5 = ev (d + 2) 89 77 [some (.ref o)] [] (sR b6 o 7 (some (o + 80))) := by
    simp (disch := first | (simp (disch := omega) only [am_k_some, va_rf_some, va_rf_none, tl_some, tl_none, am_clr_int, am_clr_ref, am_clr_none, am_clr_long, am_w_nil, am_w_int, am_w_ref, am_w_long, am_w_null, am_bb_0, am_bb_1, am_bb_bI, xK_sI, xR_sI, xS_sI, xN_sI, xK_sL, xR_sL, xS_sL, xN_sL, xK_sR, xR_sR, xS_sR, xN_sR, xK_sA, xR_sA, xS_sA, xN_sA, Nat.reduceAdd, Nat.reduceLeDiff, sI_sA, I_sA', sA_sA, I_sA, I_sA', nI_add, mul_nI, bI_0, bI_1, K5, B6, K6, ix_nI, cl_nI]; done) | omega | assumption) only [e89_68, e89_69, e89_72, e89_74, am_k_some, va_rf_some, va_rf_none, tl_some, tl_none, am_clr_int, am_clr_ref, am_clr_none, am_clr_long, am_w_nil, am_w_int, am_w_ref, am_w_long, am_w_null, am_bb_0, am_bb_1, am_bb_bI, xK_sI, xR_sI, xS_sI, xN_sI, xK_sL, xR_sL, xS_sL, xN_sL, xK_sR, xR_sR, xS_sR, xN_sR, xK_sA, xR_sA, xS_sA, xN_sA, Nat.reduceAdd, Nat.reduceLeDiff, sI_sA, I_sA', sA_sA, I_sA, I_sA', nI_add, mul_nI, bI_0, bI_1, s5, K5, B6, K6, ix_nI, cl_nI, hb6]
  generalize hc6 : sR b6 o 7 (some (o + 80)) = c6 at *
  have w7 := mk_ar (n := 7) s6
  generalize hb7 : nw c6 (2, 0, 7) 7 = b7 at *
  have B7 : mK b7 o = (1, 9, 0) := by rw [(w7.2.2.1 o (by omega)).1]; exact K6
  obtain ⟨s7, n7, P7, r7, q7, v7, f7⟩ := nx_put (a := o) (j := 9) bx_ar (by omega) w7
  replace s7 : mS (sR b7 o 9 (some (o + 81))) = o + 82 := by rw [s7]
  have K7 : mK (sR b7 o 9 (some (o + 81))) o = (1, 9, 0) := by rw [v7.1]; exact K6
  have X7 : ev (d + 2) 89 77 [some (.ref o)] [] c6 = ev (d + 2) 89 85 [some (.ref o)] [] (sR b7 o 9 (some (o + 81))) := by
    simp (disch := first | (simp (disch := omega) only [am_k_some, va_rf_some, va_rf_none, tl_some, tl_none, am_clr_int, am_clr_ref, am_clr_none, am_clr_long, am_w_nil, am_w_int, am_w_ref, am_w_long, am_w_null, am_bb_0, am_bb_1, am_bb_bI, xK_sI, xR_sI, xS_sI, xN_sI, xK_sL, xR_sL, xS_sL, xN_sL, xK_sR, xR_sR, xS_sR, xN_sR, xK_sA, xR_sA, xS_sA, xN_sA, Nat.reduceAdd, Nat.reduceLeDiff, sI_sA, I_sA', sA_sA, I_sA, I_sA', nI_add, mul_nI, bI_0, bI_1, K6, B7, K7, ix_nI, cl_nI]; done) | omega | assumption) only [e89_77, e89_78, e89_80, e89_82, am_k_some, va_rf_some, va_rf_none, tl_some, tl_none, am_clr_int, am_clr_ref, am_clr_none, am_clr_long, am_w_nil, am_w_int, am_w_ref, am_w_long, am_w_null, am_bb_0, am_bb_1, am_bb_bI, xK_sI, xR_sI, xS_sI, xN_sI, xK_sL, xR_sL, xS_sL, xN_sL, xK_sR, xR_sR, xS_sR, xN_sR, xK_sA, xR_sA, xS_sA, xN_sA, Nat.reduceAdd, Nat.reduceLeDiff, sI_sA, I_sA', sA_sA, I_sA, I_sA', nI_add, mul_nI, bI_0, bI_1, s6, K6, B7, K7, ix_nI, cl_nI, hb7]
  generalize hc7 : sR b7 o 9 (some (o + 81)) = c7 at *
  refine ⟨c7, ?_, s7, by omega, ?_, ?_⟩
  · rw [X0, X1, X2, X3, X4, X5, X6, X7]
    simp only [e89_85]
  · exact fun x hx => Sa.trans (f0 x (by omega) (by omega)) (Sa.trans (f1 x (by omega) (by omega)) (Sa.trans (f2 x (by omega) (by omega)) (Sa.trans (f3 x (by omega) (by omega)) (Sa.trans (f4 x (by omega) (by omega)) (Sa.trans (f5 x (by omega) (by omega)) (Sa.trans (f6 x (by omega) (by omega)) (f7 x (by omega) (by omega))))))))
  · have y6 : ∀ x, x < o + 81 → x ≠ o → Sa x c6 c7 := fun x h1 h2 => f7 x h1 h2
    have y5 : ∀ x, x < o + 80 → x ≠ o → Sa x c5 c7 := fun x h1 h2 => Sa.trans (f6 x h1 h2) (y6 x (by omega) h2)
    have y4 : ∀ x, x < o + 79 → x ≠ o → Sa x c4 c7 := fun x h1 h2 => Sa.trans (f5 x h1 h2) (y5 x (by omega) h2)
    have y3 : ∀ x, x < o + 78 → x ≠ o → Sa x c3 c7 := fun x h1 h2 => Sa.trans (f4 x h1 h2) (y4 x (by omega) h2)
    have y2 : ∀ x, x < o + 77 → x ≠ o → Sa x c2 c7 := fun x h1 h2 => Sa.trans (f3 x h1 h2) (y3 x (by omega) h2)
    have y1 : ∀ x, x < o + 76 → x ≠ o → Sa x c1 c7 := fun x h1 h2 => Sa.trans (f2 x h1 h2) (y2 x (by omega) h2)
    have y0 : ∀ x, x < o + 67 → x ≠ o → Sa x c0 c7 := fun x h1 h2 => Sa.trans (f1 x h1 h2) (y1 x (by omega) h2)
    have sh := bx_sh _ _ _ (fun x h1 h2 => y0 x (by omega) (by omega)) P0
    have pn := bx_pn _ _ _ (fun x h1 h2 => y1 x (by omega) (by omega)) P1
    have kp := bx_kp _ _ _ (fun x h1 h2 => y2 x (by omega) (by omega)) P2
    have ra := bx_re _ _ _ (fun x h1 h2 => y3 x (by omega) (by omega)) P3
    have rb := bx_re _ _ _ (fun x h1 h2 => y4 x (by omega) (by omega)) P4
    have ax := bx_ar _ _ _ (fun x h1 h2 => y5 x (by omega) (by omega)) P5
    have ay := bx_ar _ _ _ (fun x h1 h2 => y6 x (by omega) (by omega)) P6
    refine ⟨⟨K7, (by rw [q7 0 (by omega), q6 0 (by omega), q5 0 (by omega), q4 0 (by omega), q3 0 (by omega), q2 0 (by omega), q1 0 (by omega)]; exact r0), sh.1, (by rw [q7 1 (by omega), q6 1 (by omega), q5 1 (by omega), q4 1 (by omega), q3 1 (by omega), q2 1 (by omega)]; exact r1), pn.1, pn.2, (by rw [q7 2 (by omega), q6 2 (by omega), q5 2 (by omega), q4 2 (by omega), q3 2 (by omega)]; exact r2), kp.1, (by rw [q7 4 (by omega), q6 4 (by omega), q5 4 (by omega), q4 4 (by omega)]; exact r3), ra.1, (by rw [q7 5 (by omega), q6 5 (by omega), q5 5 (by omega)]; exact r4), rb.1, (by rw [q7 6 (by omega), q6 6 (by omega)]; exact r5), ax.1, (by rw [q7 7 (by omega)]; exact r6), ay.1, r7, P7.1⟩, sh, ax.2, ay.2, P7.2, ?_, ra, kp.2, ?_⟩
    · rw [v7.2.1, v6.2.1, v5.2.1, v4.2.1, v3.2.1, v2.2.1, v1.2.1, v0.2.1, hz]
    · rw [q7 3 (by omega), q6 3 (by omega), q5 3 (by omega), q4 3 (by omega), q3 3 (by omega), q2 3 (by omega), q1 3 (by omega), q0 3 (by omega), hr]
