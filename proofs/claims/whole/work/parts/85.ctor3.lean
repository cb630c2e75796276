/-! CONSTRUCTORS, 3: the ship -/
theorem mk_la {t : Nat} {m : am_M} (hS : mS m = t) : Nw 1 20 LaA t m (nw m (5, 2, 20) 20) := by
  refine ⟨by rw [xS_nw, hS], by rw [xN_nw], Ke.nw (by omega), by unfold LaA; rw [xK_nw, if_pos hS.symm], fun x h1 h2 => ?_⟩
  rw [xI_nw, if_pos (by omega)]
/-- a ship as it is made -/
def Sh0 (m : am_M) (a : Nat) : Prop := ShK m a ∧ (∀ x, a < x → x < a + 66 → mI m x = (fun _ => 0)) ∧ mI m a 6 = 0 ∧ mI m a 7 = 1 ∧ mI m a 9 = -1 ∧ mL m a 8 = 1000
set_option maxHeartbeats 1000000 in
theorem sp_63 {d a : Nat} {m : am_M} (hK : mK m a = (1, 8, 0)) (hS : mS m = a + 1) (hz : mI m a = (fun _ => 0)) : ∃ m', cal (d + 1) 63 [.ref a] m = some (none, m') ∧ mS m' = a + 66 ∧ mN m' = mN m + 5808 ∧ Ke a m m' ∧ Sh0 m' a := by
  have w0 := mk_la hS
  generalize hb0 : nw m (5, 2, 20) 20 = b0 at *
  have B0 : mK b0 a = (1, 8, 0) := by rw [(w0.2.2.1 a (by omega)).1]; exact hK
  obtain ⟨s0, n0, P0, z0, r0, q0, v0, f0⟩ := nw_put (a := a) (j := 0) bk_la20 (by omega) w0
  replace s0 : mS (sR b0 a 0 (some (a + 1))) = a + 2 := by rw [s0]
  have K0 : mK (sR b0 a 0 (some (a + 1))) a = (1, 8, 0) := by rw [v0.1]; exact hK
  have X0 : cal (d + 1) 63 [.ref a] m = ev (d + 1) 63 13 [some (.ref a), none] [] (sR b0 a 0 (some (a + 1))) := by
    simp (disch := first | (simp (disch := omega) only [am_k_some, va_rf_some, va_rf_none, tl_some, tl_none, am_clr_int, am_clr_ref, am_clr_none, am_clr_long, am_w_nil, am_w_int, am_w_ref, am_w_long, am_w_null, am_bb_0, am_bb_1, am_bb_bI, xK_sI, xR_sI, xS_sI, xN_sI, xK_sL, xR_sL, xS_sL, xN_sL, xK_sR, xR_sR, xS_sR, xN_sR, xK_sA, xR_sA, xS_sA, xN_sA, Nat.reduceAdd, Nat.reduceLeDiff, sI_sA, I_sA', sA_sA, I_sA, I_sA', nI_add, mul_nI, bI_0, bI_1, hK, B0, K0, ix_nI, cl_nI]; done) | omega | assumption) only [c63, e63_0, e63_1, e63_4, e63_5, e63_7, e63_10, am_k_some, va_rf_some, va_rf_none, tl_some, tl_none, am_clr_int, am_clr_ref, am_clr_none, am_clr_long, am_w_nil, am_w_int, am_w_ref, am_w_long, am_w_null, am_bb_0, am_bb_1, am_bb_bI, xK_sI, xR_sI, xS_sI, xN_sI, xK_sL, xR_sL, xS_sL, xN_sL, xK_sR, xR_sR, xS_sR, xN_sR, xK_sA, xR_sA, xS_sA, xN_sA, Nat.reduceAdd, Nat.reduceLeDiff, sI_sA, I_sA', sA_sA, I_sA, I_sA', nI_add, mul_nI, bI_0, bI_1, hS, hK, B0, K0, ix_nI, cl_nI, hb0]
  generalize hc0 : sR b0 a 0 (some (a + 1)) = c0 at *
  obtain ⟨b1, e1, w1⟩ := mk_25 (d := d) (t := a + 2) (m := c0) s0
  have B1 : mK b1 a = (1, 8, 0) := by rw [(w1.2.2.1 a (by omega)).1]; exact K0
  obtain ⟨s1, n1, P1, z1, r1, q1, v1, f1⟩ := nw_put (a := a) (j := 1) bk_LoK (by omega) w1
  replace s1 : mS (sR b1 a 1 (some (a + 2))) = a + 12 := by rw [s1]
  have K1 : mK (sR b1 a 1 (some (a + 2))) a = (1, 8, 0) := by rw [v1.1]; exact K0
  have X1 : ev (d + 1) 63 13 [some (.ref a), none] [] c0 = ev (d + 1) 63 24 [some (.ref a), none] [] (sR b1 a 1 (some (a + 2))) := by
    simp (disch := first | (simp (disch := omega) only [am_k_some, va_rf_some, va_rf_none, tl_some, tl_none, am_clr_int, am_clr_ref, am_clr_none, am_clr_long, am_w_nil, am_w_int, am_w_ref, am_w_long, am_w_null, am_bb_0, am_bb_1, am_bb_bI, xK_sI, xR_sI, xS_sI, xN_sI, xK_sL, xR_sL, xS_sL, xN_sL, xK_sR, xR_sR, xS_sR, xN_sR, xK_sA, xR_sA, xS_sA, xN_sA, Nat.reduceAdd, Nat.reduceLeDiff, sI_sA, I_sA', sA_sA, I_sA, I_sA', nI_add, mul_nI, bI_0, bI_1, K0, B1, K1, ix_nI, cl_nI]; done) | omega | assumption) only [e63_13, e63_14, e63_17, e63_17r, e63_18, e63_21, am_k_some, va_rf_some, va_rf_none, tl_some, tl_none, am_clr_int, am_clr_ref, am_clr_none, am_clr_long, am_w_nil, am_w_int, am_w_ref, am_w_long, am_w_null, am_bb_0, am_bb_1, am_bb_bI, xK_sI, xR_sI, xS_sI, xN_sI, xK_sL, xR_sL, xS_sL, xN_sL, xK_sR, xR_sR, xS_sR, xN_sR, xK_sA, xR_sA, xS_sA, xN_sA, Nat.reduceAdd, Nat.reduceLeDiff, sI_sA, I_sA', sA_sA, I_sA, I_sA', nI_add, mul_nI, bI_0, bI_1, s0, K0, B1, K1, ix_nI, cl_nI, e1]
  generalize hc1 : sR b1 a 1 (some (a + 2)) = c1 at *
  obtain ⟨b2, e2, w2⟩ := mk_0 (d := d) (t := a + 12) (m := c1) s1
  have B2 : mK b2 a = (1, 8, 0) := by rw [(w2.2.2.1 a (by omega)).1]; exact K1
  obtain ⟨s2, n2, P2, z2, r2, q2, v2, f2⟩ := nw_put (a := a) (j := 2) bk_AcK (by omega) w2
  replace s2 : mS (sR b2 a 2 (some (a + 12))) = a + 17 := by rw [s2]
  have K2 : mK (sR b2 a 2 (some (a + 12))) a = (1, 8, 0) := by rw [v2.1]; exact K1
  have X2 : ev (d + 1) 63 24 [some (.ref a), none] [] c1 = ev (d + 1) 63 35 [some (.ref a), none] [] (sR b2 a 2 (some (a + 12))) := by
    simp (disch := first | (simp (disch := omega) only [am_k_some, va_rf_some, va_rf_none, tl_some, tl_none, am_clr_int, am_clr_ref, am_clr_none, am_clr_long, am_w_nil, am_w_int, am_w_ref, am_w_long, am_w_null, am_bb_0, am_bb_1, am_bb_bI, xK_sI, xR_sI, xS_sI, xN_sI, xK_sL, xR_sL, xS_sL, xN_sL, xK_sR, xR_sR, xS_sR, xN_sR, xK_sA, xR_sA, xS_sA, xN_sA, Nat.reduceAdd, Nat.reduceLeDiff, sI_sA, I_sA', sA_sA, I_sA, I_sA', nI_add, mul_nI, bI_0, bI_1, K1, B2, K2, ix_nI, cl_nI]; done) | omega | assumption) only [e63_24, e63_25, e63_28, e63_28r, e63_29, e63_32, am_k_some, va_rf_some, va_rf_none, tl_some, tl_none, am_clr_int, am_clr_ref, am_clr_none, am_clr_long, am_w_nil, am_w_int, am_w_ref, am_w_long, am_w_null, am_bb_0, am_bb_1, am_bb_bI, xK_sI, xR_sI, xS_sI, xN_sI, xK_sL, xR_sL, xS_sL, xN_sL, xK_sR, xR_sR, xS_sR, xN_sR, xK_sA, xR_sA, xS_sA, xN_sA, Nat.reduceAdd, Nat.reduceLeDiff, sI_sA, I_sA', sA_sA, I_sA, I_sA', nI_add, mul_nI, bI_0, bI_1, s1, K1, B2, K2, ix_nI, cl_nI, e2]
  generalize hc2 : sR b2 a 2 (some (a + 12)) = c2 at *
  obtain ⟨b3, e3, w3⟩ := mk_34 (d := d) (t := a + 17) (m := c2) s2
  have B3 : mK b3 a = (1, 8, 0) := by rw [(w3.2.2.1 a (by omega)).1]; exact K2
  obtain ⟨s3, n3, P3, z3, r3, q3, v3, f3⟩ := nw_put (a := a) (j := 3) bk_PlK (by omega) w3
  replace s3 : mS (sR b3 a 3 (some (a + 17))) = a + 21 := by rw [s3]
  have K3 : mK (sR b3 a 3 (some (a + 17))) a = (1, 8, 0) := by rw [v3.1]; exact K2
  have X3 : ev (d + 1) 63 35 [some (.ref a), none] [] c2 = ev (d + 1) 63 46 [some (.ref a), none] [] (sR b3 a 3 (some (a + 17))) := by
    simp (disch := first | (simp (disch := omega) only [am_k_some, va_rf_some, va_rf_none, tl_some, tl_none, am_clr_int, am_clr_ref, am_clr_none, am_clr_long, am_w_nil, am_w_int, am_w_ref, am_w_long, am_w_null, am_bb_0, am_bb_1, am_bb_bI, xK_sI, xR_sI, xS_sI, xN_sI, xK_sL, xR_sL, xS_sL, xN_sL, xK_sR, xR_sR, xS_sR, xN_sR, xK_sA, xR_sA, xS_sA, xN_sA, Nat.reduceAdd, Nat.reduceLeDiff, sI_sA, I_sA', sA_sA, I_sA, I_sA', nI_add, mul_nI, bI_0, bI_1, K2, B3, K3, ix_nI, cl_nI]; done) | omega | assumption) only [e63_35, e63_36, e63_39, e63_39r, e63_40, e63_43, am_k_some, va_rf_some, va_rf_none, tl_some, tl_none, am_clr_int, am_clr_ref, am_clr_none, am_clr_long, am_w_nil, am_w_int, am_w_ref, am_w_long, am_w_null, am_bb_0, am_bb_1, am_bb_bI, xK_sI, xR_sI, xS_sI, xN_sI, xK_sL, xR_sL, xS_sL, xN_sL, xK_sR, xR_sR, xS_sR, xN_sR, xK_sA, xR_sA, xS_sA, xN_sA, Nat.reduceAdd, Nat.reduceLeDiff, sI_sA, I_sA', sA_sA, I_sA, I_sA', nI_add, mul_nI, bI_0, bI_1, s2, K2, B3, K3, ix_nI, cl_nI, e3]
  generalize hc3 : sR b3 a 3 (some (a + 17)) = c3 at *
  obtain ⟨b4, e4, w4⟩ := mk_58 (d := d) (t := a + 21) (m := c3) s3
  have B4 : mK b4 a = (1, 8, 0) := by rw [(w4.2.2.1 a (by omega)).1]; exact K3
  obtain ⟨s4, n4, P4, z4, r4, q4, v4, f4⟩ := nw_put (a := a) (j := 4) bk_RoK (by omega) w4
  replace s4 : mS (sR b4 a 4 (some (a + 21))) = a + 23 := by rw [s4]
  have K4 : mK (sR b4 a 4 (some (a + 21))) a = (1, 8, 0) := by rw [v4.1]; exact K3
  have X4 : ev (d + 1) 63 46 [some (.ref a), none] [] c3 = ev (d + 1) 63 57 [some (.ref a), none] [] (sR b4 a 4 (some (a + 21))) := by
    simp (disch := first | (simp (disch := omega) only [am_k_some, va_rf_some, va_rf_none, tl_some, tl_none, am_clr_int, am_clr_ref, am_clr_none, am_clr_long, am_w_nil, am_w_int, am_w_ref, am_w_long, am_w_null, am_bb_0, am_bb_1, am_bb_bI, xK_sI, xR_sI, xS_sI, xN_sI, xK_sL, xR_sL, xS_sL, xN_sL, xK_sR, xR_sR, xS_sR, xN_sR, xK_sA, xR_sA, xS_sA, xN_sA, Nat.reduceAdd, Nat.reduceLeDiff, sI_sA, I_sA', sA_sA, I_sA, I_sA', nI_add, mul_nI, bI_0, bI_1, K3, B4, K4, ix_nI, cl_nI]; done) | omega | assumption) only [e63_46, e63_47, e63_50, e63_50r, e63_51, e63_54, am_k_some, va_rf_some, va_rf_none, tl_some, tl_none, am_clr_int, am_clr_ref, am_clr_none, am_clr_long, am_w_nil, am_w_int, am_w_ref, am_w_long, am_w_null, am_bb_0, am_bb_1, am_bb_bI, xK_sI, xR_sI, xS_sI, xN_sI, xK_sL, xR_sL, xS_sL, xN_sL, xK_sR, xR_sR, xS_sR, xN_sR, xK_sA, xR_sA, xS_sA, xN_sA, Nat.reduceAdd, Nat.reduceLeDiff, sI_sA, I_sA', sA_sA, I_sA, I_sA', nI_add, mul_nI, bI_0, bI_1, s3, K3, B4, K4, ix_nI, cl_nI, e4]
  generalize hc4 : sR b4 a 4 (some (a + 21)) = c4 at *
  obtain ⟨b5, e5, w5⟩ := mk_58 (d := d) (t := a + 23) (m := c4) s4
  have B5 : mK b5 a = (1, 8, 0) := by rw [(w5.2.2.1 a (by omega)).1]; exact K4
  obtain ⟨s5, n5, P5, z5, r5, q5, v5, f5⟩ := nw_put (a := a) (j := 5) bk_RoK (by omega) w5
  replace s5 : mS (sR b5 a 5 (some (a + 23))) = a + 25 := by rw [s5]
  have K5 : mK (sR b5 a 5 (some (a + 23))) a = (1, 8, 0) := by rw [v5.1]; exact K4
  have X5 : ev (d + 1) 63 57 [some (.ref a), none] [] c4 = ev (d + 1) 63 68 [some (.ref a), none] [] (sR b5 a 5 (some (a + 23))) := by
    simp (disch := first | (simp (disch := omega) only [am_k_some, va_rf_some, va_rf_none, tl_some, tl_none, am_clr_int, am_clr_ref, am_clr_none, am_clr_long, am_w_nil, am_w_int, am_w_ref, am_w_long, am_w_null, am_bb_0, am_bb_1, am_bb_bI, xK_sI, xR_sI, xS_sI, xN_sI, xK_sL, xR_sL, xS_sL, xN_sL, xK_sR, xR_sR, xS_sR, xN_sR, xK_sA, xR_sA, xS_sA, xN_sA, Nat.reduceAdd, Nat.reduceLeDiff, sI_sA, I_sA', sA_sA, I_sA, I_sA', nI_add, mul_nI, bI_0, bI_1, K4, B5, K5, ix_nI, cl_nI]; done) | omega | assumption) only [e63_57, e63_58, e63_61, e63_61r, e63_62, e63_65, am_k_some, va_rf_some, va_rf_none, tl_some, tl_none, am_clr_int, am_clr_ref, am_clr_none, am_clr_long, am_w_nil, am_w_int, am_w_ref, am_w_long, am_w_null, am_bb_0, am_bb_1, am_bb_bI, xK_sI, xR_sI, xS_sI, xN_sI, xK_sL, xR_sL, xS_sL, xN_sL, xK_sR, xR_sR, xS_sR, xN_sR, xK_sA, xR_sA, xS_sA, xN_sA, Nat.reduceAdd, Nat.reduceLeDiff, sI_sA, I_sA', sA_sA, I_sA, I_sA', nI_add, mul_nI, bI_0, bI_1, s4, K4, B5, K5, ix_nI, cl_nI, e5]
  generalize hc5 : sR b5 a 5 (some (a + 23)) = c5 at *
  have X6 : ev (d + 1) 63 68 [some (.ref a), none] [] c5 = ev (d + 1) 63 85 [some (.ref a), none] [] (sI (sL (sI c5 a 7 (nI 1)) a 8 1000) a 9 (-1)) := by
    simp (disch := first | (simp (disch := omega) only [xK_sI, xK_sL, K5]; done) | omega | assumption) only [e63_68, e63_69, e63_70, e63_73, e63_74, e63_77, e63_80, e63_81, e63_82]
  generalize hc6 : sI (sL (sI c5 a 7 (nI 1)) a 8 1000) a 9 (-1) = c6 at *
  have s6 : mS c6 = a + 25 := by rw [← hc6, xS_sI, xS_sL, xS_sI, s5]
  have n6 : mN c6 = mN c5 := by rw [← hc6, xN_sI, xN_sL, xN_sI]
  have K6 : mK c6 a = (1, 8, 0) := by rw [← hc6, xK_sI, xK_sL, xK_sI]; exact K5
  have f6 : ∀ x, x ≠ a → mK c6 x = mK c5 x ∧ mI c6 x = mI c5 x ∧ mL c6 x = mL c5 x ∧ mR c6 x = mR c5 x := fun x hx => by
    rw [← hc6]
    refine ⟨by rw [xK_sI, xK_sL, xK_sI], ?_, ?_, ?_⟩
    · rw [sI_sA, I_sA' _ _ hx, mI_sL, sI_sA, I_sA' _ _ hx]
    · funext y
      rw [mL_sI, xL_sL, if_neg (fun q => hx q.1), mL_sI]
    · funext y
      rw [xR_sI, xR_sL, xR_sI]
  have q6 : ∀ i, mR c6 a i = mR c5 a i := fun i => by rw [← hc6, xR_sI, xR_sL, xR_sI]
  have z5a : mI c5 a = (fun _ => 0) := by rw [v5.2.1, v4.2.1, v3.2.1, v2.2.1, v1.2.1, v0.2.1, hz]
  have i6 : mI c6 a 6 = 0 ∧ mI c6 a 7 = 1 ∧ mI c6 a 9 = -1 ∧ mL c6 a 8 = 1000 := by
    rw [← hc6]
    refine ⟨?_, ?_, ?_, ?_⟩
    · rw [xI_sI, if_neg (by omega), mI_sL, xI_sI, if_neg (by omega), z5a]
    · rw [xI_sI, if_neg (by omega), mI_sL, xI_sI, if_pos ⟨rfl, rfl⟩]; rfl
    · rw [xI_sI, if_pos ⟨rfl, rfl⟩]
    · rw [mL_sI, xL_sL, if_pos ⟨rfl, rfl⟩]
  obtain ⟨b7, e7, w7⟩ := mk_5 (d := d) (t := a + 25) (m := c6) s6
  have B7 : mK b7 a = (1, 8, 0) := by rw [(w7.2.2.1 a (by omega)).1]; exact K6
  obtain ⟨s7, n7, P7, z7, r7, q7, v7, f7⟩ := nw_put (a := a) (j := 10) bk_ga (by omega) w7
  replace s7 : mS (sR b7 a 10 (some (a + 25))) = a + 26 := by rw [s7]
  have K7 : mK (sR b7 a 10 (some (a + 25))) a = (1, 8, 0) := by rw [v7.1]; exact K6
  have X7 : ev (d + 1) 63 85 [some (.ref a), none] [] c6 = ev (d + 1) 63 98 [some (.ref a), some (.int (nI 0))] [] (sR b7 a 10 (some (a + 25))) := by
    simp (disch := first | (simp (disch := omega) only [am_k_some, va_rf_some, va_rf_none, tl_some, tl_none, am_clr_int, am_clr_ref, am_clr_none, am_clr_long, am_w_nil, am_w_int, am_w_ref, am_w_long, am_w_null, am_bb_0, am_bb_1, am_bb_bI, xK_sI, xR_sI, xS_sI, xN_sI, xK_sL, xR_sL, xS_sL, xN_sL, xK_sR, xR_sR, xS_sR, xN_sR, xK_sA, xR_sA, xS_sA, xN_sA, Nat.reduceAdd, Nat.reduceLeDiff, sI_sA, I_sA', sA_sA, I_sA, I_sA', nI_add, mul_nI, bI_0, bI_1, K6, B7, K7, ix_nI, cl_nI]; done) | omega | assumption) only [e63_85, e63_86, e63_89, e63_89r, e63_90, e63_93, e63_96, e63_97, am_k_some, va_rf_some, va_rf_none, tl_some, tl_none, am_clr_int, am_clr_ref, am_clr_none, am_clr_long, am_w_nil, am_w_int, am_w_ref, am_w_long, am_w_null, am_bb_0, am_bb_1, am_bb_bI, xK_sI, xR_sI, xS_sI, xN_sI, xK_sL, xR_sL, xS_sL, xN_sL, xK_sR, xR_sR, xS_sR, xN_sR, xK_sA, xR_sA, xS_sA, xN_sA, Nat.reduceAdd, Nat.reduceLeDiff, sI_sA, I_sA', sA_sA, I_sA, I_sA', nI_add, mul_nI, bI_0, bI_1, s6, K6, B7, K7, ix_nI, cl_nI, e7]
  generalize hc7 : sR b7 a 10 (some (a + 25)) = c7 at *
  have R0 : mR c7 a 0 = some (a + 1) := by rw [q7 0 (by omega), q6, q5 0 (by omega), q4 0 (by omega), q3 0 (by omega), q2 0 (by omega), q1 0 (by omega)]; exact r0
  have A0 : mK c7 (a + 1) = (5, 2, 20) := by rw [(f7 (a + 1) (by omega) (by omega)).1, (f6 (a + 1) (by omega)).1, (f5 (a + 1) (by omega) (by omega)).1, (f4 (a + 1) (by omega) (by omega)).1, (f3 (a + 1) (by omega) (by omega)).1, (f2 (a + 1) (by omega) (by omega)).1, (f1 (a + 1) (by omega) (by omega)).1]; exact P0
  obtain ⟨m', g, s8, n8, f8, v8, -, l8, z8⟩ := sp_63l (d := d) (a := a) 20 0 c7 (by omega) (by rw [s7]) K7 R0 A0
  have x7 : Sx a (a + 26) c7 m' := fun x h1 h2 h3 => f8 x (by omega) h3
  have x6 : Sx a (a + 25) c6 m' := Sx.trans (fun x h1 h2 h3 => f7 x (by omega) h2) x7 (by omega)
  have x5 : Sx a (a + 25) c5 m' := Sx.trans (fun x h1 h2 h3 => f6 x h2) x6 (by omega)
  have x4 : Sx a (a + 23) c4 m' := Sx.trans (fun x h1 h2 h3 => f5 x (by omega) h2) x5 (by omega)
  have x3 : Sx a (a + 21) c3 m' := Sx.trans (fun x h1 h2 h3 => f4 x (by omega) h2) x4 (by omega)
  have x2 : Sx a (a + 17) c2 m' := Sx.trans (fun x h1 h2 h3 => f3 x (by omega) h2) x3 (by omega)
  have x1 : Sx a (a + 12) c1 m' := Sx.trans (fun x h1 h2 h3 => f2 x (by omega) h2) x2 (by omega)
  have x0 : Sx a (a + 2) c0 m' := Sx.trans (fun x h1 h2 h3 => f1 x (by omega) h2) x1 (by omega)
  have xm : Sx a (a + 1) m m' := Sx.trans (fun x h1 h2 h3 => f0 x (by omega) h2) x0 (by omega)
  have va := f8 a (by omega) (by omega)
  have rr : ∀ i, mR m' a i = mR c7 a i := fun i => by rw [va.2.2.2]
  refine ⟨m', ?_, s8, ?_, fun x hx => xm x (by omega) (by omega) (by omega), ⟨?_, fun x h1 h2 => ?_, ?_, ?_, ?_, ?_⟩⟩
  · rw [X0, X1, X2, X3, X4, X5, X6, X7, g]
  · omega
  · refine ⟨by rw [va.1]; exact K7, by rw [rr]; exact R0, by rw [v8.1]; exact A0, fun i hi => (l8 i (by omega) hi).1, fun i hi => (l8 i (by omega) hi).2, ?_, bk_LoK.go x1 (by omega) (by omega) P1, ?_, bk_AcK.go x2 (by omega) (by omega) P2, ?_, bk_PlK.go x3 (by omega) (by omega) P3, ?_, bk_RoK.go x4 (by omega) (by omega) P4, ?_, bk_RoK.go x5 (by omega) (by omega) P5, ?_, bk_ga.go x7 (by omega) (by omega) P7⟩
    · rw [rr, q7 1 (by omega), q6, q5 1 (by omega), q4 1 (by omega), q3 1 (by omega), q2 1 (by omega)]; exact r1
    · rw [rr, q7 2 (by omega), q6, q5 2 (by omega), q4 2 (by omega), q3 2 (by omega)]; exact r2
    · rw [rr, q7 3 (by omega), q6, q5 3 (by omega), q4 3 (by omega)]; exact r3
    · rw [rr, q7 4 (by omega), q6, q5 4 (by omega)]; exact r4
    · rw [rr, q7 5 (by omega), q6]; exact r5
    · rw [rr]; exact r7
  · by_cases y1 : x = a + 1
    · rw [y1, v8.2, (f7 (a + 1) (by omega) (by omega)).2.1, (f6 (a + 1) (by omega)).2.1, (f5 (a + 1) (by omega) (by omega)).2.1, (f4 (a + 1) (by omega) (by omega)).2.1, (f3 (a + 1) (by omega) (by omega)).2.1, (f2 (a + 1) (by omega) (by omega)).2.1, (f1 (a + 1) (by omega) (by omega)).2.1]
      exact z0 _ (by omega) (by omega)
    by_cases y2 : x < a + 12
    · rw [(x1 x (by omega) (by omega) (by omega)).2.1]; exact z1 x (by omega) (by omega)
    by_cases y3 : x < a + 17
    · rw [(x2 x (by omega) (by omega) (by omega)).2.1]; exact z2 x (by omega) (by omega)
    by_cases y4 : x < a + 21
    · rw [(x3 x (by omega) (by omega) (by omega)).2.1]; exact z3 x (by omega) (by omega)
    by_cases y5 : x < a + 23
    · rw [(x4 x (by omega) (by omega) (by omega)).2.1]; exact z4 x (by omega) (by omega)
    by_cases y6 : x < a + 25
    · rw [(x5 x (by omega) (by omega) (by omega)).2.1]; exact z5 x (by omega) (by omega)
    by_cases y7 : x < a + 26
    · rw [(x7 x (by omega) (by omega) (by omega)).2.1]; exact z7 x (by omega) (by omega)
    exact z8 x (by omega) (by omega)
  · rw [va.2.1, v7.2.1]; exact i6.1
  · rw [va.2.1, v7.2.1]; exact i6.2.1
  · rw [va.2.1, v7.2.1]; exact i6.2.2.1
  · rw [va.2.2.1, v7.2.2]; exact i6.2.2.2
