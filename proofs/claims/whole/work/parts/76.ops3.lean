/-! THE CALLS: kindAt .. free -/
theorem kaF_lt (S : Nat → Int32) (i : Nat) (y : Int32) : kaF S i y < 7 := by
  have := atF_lt S i y
  unfold kaF
  repeat' split
  all_goals omega
theorem op_6 {B : Nat} {m : am_M} {x y : Int32} (G : Good B m) : Op1 B 96 170 [.int x, .int y] m := by
  obtain ⟨s, c, w, W⟩ := G
  have f := c.1
  have k := f.sh
  have v := c.2.1
  have Q := W.1
  have n2 := Q.nm.2
  have ko := k.lo
  rcases rng x 20 (by omega) with hb | ⟨i, hi, rfl⟩
  · refine op_f (k := 2) c w W (by omega) ?_ (fun m1 w' => sp_170b (d := 36) hb w'.1)
    have C := cl_95b (d := 36) (y := y) f hb
    simp (disch := first | (simp (disch := omega) only [am_k_some, va_rf_some, va_rf_none, tl_some, tl_none, am_clr_int, am_clr_ref, am_clr_none, am_clr_long, am_w_nil, am_w_int, am_w_ref, am_w_long, am_w_null, am_bb_0, am_bb_1, am_bb_bI, xK_sI, xR_sI, xS_sI, xN_sI, xK_sL, xR_sL, xS_sL, xN_sL, xK_sR, xR_sR, xS_sR, xN_sR, xK_sA, xR_sA, xS_sA, xN_sA, Nat.reduceAdd, Nat.reduceLeDiff, sI_sA, I_sA', sA_sA, I_sA, I_sA', nI_add, mul_nI, bI_0, bI_1, f.k, f.r0, f.r1, f.r2, f.k2, f.r4, f.k4, f.r5, f.k5, f.r6, f.k6, f.r7, f.k7, f.r9, f.k9, k.k, k.r0, k.k0, k.rl, k.r1, k.r2, k.ac.k, k.lo.k, ix_nI, cl_nI]; done) | omega | assumption) only [c96, e96_0, e96_1, e96_2, e96_3, e96_6, e96_7, e96_8, e96_10, e96_13, e96_15, e96_16, e96_17, e96_20, e96_23, e96_24, e96_27, e96_30, e96_31, e96_32, e96_35, e96_36, e96_37, e96_40, e96_43, e96_46, e96_47, e96_48, am_k_some, va_rf_some, va_rf_none, tl_some, tl_none, am_clr_int, am_clr_ref, am_clr_none, am_clr_long, am_w_nil, am_w_int, am_w_ref, am_w_long, am_w_null, am_bb_0, am_bb_1, am_bb_bI, xK_sI, xR_sI, xS_sI, xN_sI, xK_sL, xR_sL, xS_sL, xN_sL, xK_sR, xR_sR, xS_sR, xN_sR, xK_sA, xR_sA, xS_sA, xN_sA, Nat.reduceAdd, Nat.reduceLeDiff, sI_sA, I_sA', sA_sA, I_sA, I_sA', nI_add, mul_nI, bI_0, bI_1, f.k, f.r0, f.r1, f.r2, f.k2, f.r4, f.k4, f.r5, f.k5, f.r6, f.k6, f.r7, f.k7, f.r9, f.k9, k.k, k.r0, k.k0, k.rl, k.r1, k.r2, k.ac.k, k.lo.k, ix_nI, cl_nI, lt_nI, eq_nI, sub_nI, Nat.reduceEqDiff, Nat.one_ne_zero, Nat.not_lt_zero, ↓reduceIte, C]
  have C := cl_95 (d := 36) (y := y) f v Q.b hi
  have MM : ∀ m1, MI m1 (B + 82) s → cal 39 170 [.ref (B + 82), .int (nI i), .int y] m1 = some (if kaF (stS s) i y = 0 then (some (.int (stS s (900 + (stS s (40 * i + y.toNatClampNeg)).toNatClampNeg))), m1) else (some (.int (-17)), sA m1 (B + 82 + 9) (fdS (mI m1 (B + 82 + 9)) (kaF (stS s) i y)))) := fun m1 w' => by
    have M := sp_170 (d := 36) (x := y) w'.1 hi (by rw [w'.2.1]; exact Q.ln) (by rw [w'.2.1]; exact Q.nm) (by rw [w'.2.1]; exact Q.c.ok)
    rw [w'.2.1] at M
    exact M
  have hcn : mI m (B + 1 + 2) 9 = nI (nm (stS s)) := by rw [v.lo.1]; exact Q.nm.1
  by_cases h0 : atF (stS s) i y = 0
  · rw [if_pos h0] at C
    obtain ⟨p, hp, rfl, ht⟩ := at_in Q.ln hi h0
    have l2 := (Q.ln i hi).2
    rw [cl_nI (by omega)] at C MM
    rcases Q.c.ok i p hi (by omega) with hc | hc | ⟨l, hl, hc⟩
    · have hk : kaF (stS s) i (nI p) = 4 := by unfold kaF; rw [if_pos h0, cl_nI (by omega), hc, if_pos u1]
      rw [hc] at C
      refine op_f (k := 4) c w W (by omega) ?_ (fun m1 w' => by have M := MM m1 w'; rw [hk, if_neg (by omega)] at M; exact M)
      have hb := sp_26b (d := 38) ko hcn (x := -1) (Or.inl u1)
      have fd := sp_128 (d := 38) (k := 4) f (by omega)
      have n17 : ¬ (-1 : Int32) = -17 := by decide
      simp (disch := first | (simp (disch := omega) only [am_k_some, va_rf_some, va_rf_none, tl_some, tl_none, am_clr_int, am_clr_ref, am_clr_none, am_clr_long, am_w_nil, am_w_int, am_w_ref, am_w_long, am_w_null, am_bb_0, am_bb_1, am_bb_bI, xK_sI, xR_sI, xS_sI, xN_sI, xK_sL, xR_sL, xS_sL, xN_sL, xK_sR, xR_sR, xS_sR, xN_sR, xK_sA, xR_sA, xS_sA, xN_sA, Nat.reduceAdd, Nat.reduceLeDiff, sI_sA, I_sA', sA_sA, I_sA, I_sA', nI_add, mul_nI, bI_0, bI_1, f.k, f.r0, f.r1, f.r2, f.k2, f.r4, f.k4, f.r5, f.k5, f.r6, f.k6, f.r7, f.k7, f.r9, f.k9, k.k, k.r0, k.k0, k.rl, k.r1, k.r2, k.ac.k, k.lo.k, ix_nI, cl_nI]; done) | omega | assumption) only [c96, e96_0, e96_1, e96_2, e96_3, e96_6, e96_7, e96_8, e96_10, e96_13, e96_15, e96_16, e96_17, e96_20, e96_23, e96_24, e96_27, e96_30, e96_31, e96_32, e96_35, e96_36, e96_37, e96_40, e96_43, e96_46, e96_47, e96_48, am_k_some, va_rf_some, va_rf_none, tl_some, tl_none, am_clr_int, am_clr_ref, am_clr_none, am_clr_long, am_w_nil, am_w_int, am_w_ref, am_w_long, am_w_null, am_bb_0, am_bb_1, am_bb_bI, xK_sI, xR_sI, xS_sI, xN_sI, xK_sL, xR_sL, xS_sL, xN_sL, xK_sR, xR_sR, xS_sR, xN_sR, xK_sA, xR_sA, xS_sA, xN_sA, Nat.reduceAdd, Nat.reduceLeDiff, sI_sA, I_sA', sA_sA, I_sA, I_sA', nI_add, mul_nI, bI_0, bI_1, f.k, f.r0, f.r1, f.r2, f.k2, f.r4, f.k4, f.r5, f.k5, f.r6, f.k6, f.r7, f.k7, f.r9, f.k9, k.k, k.r0, k.k0, k.rl, k.r1, k.r2, k.ac.k, k.lo.k, ix_nI, cl_nI, lt_nI, eq_nI, sub_nI, Nat.reduceEqDiff, Nat.one_ne_zero, Nat.not_lt_zero, ↓reduceIte, C, hb, fd, n17]
    · have hk : kaF (stS s) i (nI p) = 4 := by unfold kaF; rw [if_pos h0, cl_nI (by omega), hc, if_pos u2]
      rw [hc] at C
      refine op_f (k := 4) c w W (by omega) ?_ (fun m1 w' => by have M := MM m1 w'; rw [hk, if_neg (by omega)] at M; exact M)
      have hb := sp_26b (d := 38) ko hcn (x := -2) (Or.inl u2)
      have fd := sp_128 (d := 38) (k := 4) f (by omega)
      have n17 : ¬ (-2 : Int32) = -17 := by decide
      simp (disch := first | (simp (disch := omega) only [am_k_some, va_rf_some, va_rf_none, tl_some, tl_none, am_clr_int, am_clr_ref, am_clr_none, am_clr_long, am_w_nil, am_w_int, am_w_ref, am_w_long, am_w_null, am_bb_0, am_bb_1, am_bb_bI, xK_sI, xR_sI, xS_sI, xN_sI, xK_sL, xR_sL, xS_sL, xN_sL, xK_sR, xR_sR, xS_sR, xN_sR, xK_sA, xR_sA, xS_sA, xN_sA, Nat.reduceAdd, Nat.reduceLeDiff, sI_sA, I_sA', sA_sA, I_sA, I_sA', nI_add, mul_nI, bI_0, bI_1, f.k, f.r0, f.r1, f.r2, f.k2, f.r4, f.k4, f.r5, f.k5, f.r6, f.k6, f.r7, f.k7, f.r9, f.k9, k.k, k.r0, k.k0, k.rl, k.r1, k.r2, k.ac.k, k.lo.k, ix_nI, cl_nI]; done) | omega | assumption) only [c96, e96_0, e96_1, e96_2, e96_3, e96_6, e96_7, e96_8, e96_10, e96_13, e96_15, e96_16, e96_17, e96_20, e96_23, e96_24, e96_27, e96_30, e96_31, e96_32, e96_35, e96_36, e96_37, e96_40, e96_43, e96_46, e96_47, e96_48, am_k_some, va_rf_some, va_rf_none, tl_some, tl_none, am_clr_int, am_clr_ref, am_clr_none, am_clr_long, am_w_nil, am_w_int, am_w_ref, am_w_long, am_w_null, am_bb_0, am_bb_1, am_bb_bI, xK_sI, xR_sI, xS_sI, xN_sI, xK_sL, xR_sL, xS_sL, xN_sL, xK_sR, xR_sR, xS_sR, xN_sR, xK_sA, xR_sA, xS_sA, xN_sA, Nat.reduceAdd, Nat.reduceLeDiff, sI_sA, I_sA', sA_sA, I_sA, I_sA', nI_add, mul_nI, bI_0, bI_1, f.k, f.r0, f.r1, f.r2, f.k2, f.r4, f.k4, f.r5, f.k5, f.r6, f.k6, f.r7, f.k7, f.r9, f.k9, k.k, k.r0, k.k0, k.rl, k.r1, k.r2, k.ac.k, k.lo.k, ix_nI, cl_nI, lt_nI, eq_nI, sub_nI, Nat.reduceEqDiff, Nat.one_ne_zero, Nat.not_lt_zero, ↓reduceIte, C, hb, fd, n17]
    · have z : ¬ nI l < nI 0 := by rw [lt_nI (by omega) (by omega)]; omega
      have hk : kaF (stS s) i (nI p) = 0 := by unfold kaF; rw [if_pos h0, cl_nI (by omega), hc, if_neg z]
      have M := MM m w
      rw [hk, if_pos rfl, hc, cl_nI (by omega)] at M
      rw [hc] at C
      refine op_r c w W _ ?_ M
      have hb := sp_26v (d := 38) ko hcn n2 hl
      have wk := (v.lo.2 l hl).1
      have n17 : ¬ nI l = -17 := neg_ne (n := 17) (by omega) (by omega) (by omega)
      simp (disch := first | (simp (disch := omega) only [am_k_some, va_rf_some, va_rf_none, tl_some, tl_none, am_clr_int, am_clr_ref, am_clr_none, am_clr_long, am_w_nil, am_w_int, am_w_ref, am_w_long, am_w_null, am_bb_0, am_bb_1, am_bb_bI, xK_sI, xR_sI, xS_sI, xN_sI, xK_sL, xR_sL, xS_sL, xN_sL, xK_sR, xR_sR, xS_sR, xN_sR, xK_sA, xR_sA, xS_sA, xN_sA, Nat.reduceAdd, Nat.reduceLeDiff, sI_sA, I_sA', sA_sA, I_sA, I_sA', nI_add, mul_nI, bI_0, bI_1, f.k, f.r0, f.r1, f.r2, f.k2, f.r4, f.k4, f.r5, f.k5, f.r6, f.k6, f.r7, f.k7, f.r9, f.k9, k.k, k.r0, k.k0, k.rl, k.r1, k.r2, k.ac.k, k.lo.k, ko.k, ko.r0, ko.k0, ix_nI, cl_nI]; done) | omega | assumption) only [c96, e96_0, e96_1, e96_2, e96_3, e96_6, e96_7, e96_8, e96_10, e96_13, e96_15, e96_16, e96_17, e96_20, e96_23, e96_24, e96_27, e96_30, e96_31, e96_32, e96_35, e96_36, e96_37, e96_40, e96_43, e96_46, e96_47, e96_48, am_k_some, va_rf_some, va_rf_none, tl_some, tl_none, am_clr_int, am_clr_ref, am_clr_none, am_clr_long, am_w_nil, am_w_int, am_w_ref, am_w_long, am_w_null, am_bb_0, am_bb_1, am_bb_bI, xK_sI, xR_sI, xS_sI, xN_sI, xK_sL, xR_sL, xS_sL, xN_sL, xK_sR, xR_sR, xS_sR, xN_sR, xK_sA, xR_sA, xS_sA, xN_sA, Nat.reduceAdd, Nat.reduceLeDiff, sI_sA, I_sA', sA_sA, I_sA, I_sA', nI_add, mul_nI, bI_0, bI_1, f.k, f.r0, f.r1, f.r2, f.k2, f.r4, f.k4, f.r5, f.k5, f.r6, f.k6, f.r7, f.k7, f.r9, f.k9, k.k, k.r0, k.k0, k.rl, k.r1, k.r2, k.ac.k, k.lo.k, ko.k, ko.r0, ko.k0, ix_nI, cl_nI, lt_nI, eq_nI, sub_nI, Nat.reduceEqDiff, Nat.one_ne_zero, Nat.not_lt_zero, ↓reduceIte, n10, C, hb, wk, n17]
  · rw [if_neg h0] at C
    have hk : kaF (stS s) i y = atF (stS s) i y := by unfold kaF; rw [if_neg h0]
    refine op_f (k := atF (stS s) i y) c w W (atF_lt _ _ _) ?_ (fun m1 w' => by have M := MM m1 w'; rw [hk, if_neg h0] at M; exact M)
    simp (disch := first | (simp (disch := omega) only [am_k_some, va_rf_some, va_rf_none, tl_some, tl_none, am_clr_int, am_clr_ref, am_clr_none, am_clr_long, am_w_nil, am_w_int, am_w_ref, am_w_long, am_w_null, am_bb_0, am_bb_1, am_bb_bI, xK_sI, xR_sI, xS_sI, xN_sI, xK_sL, xR_sL, xS_sL, xN_sL, xK_sR, xR_sR, xS_sR, xN_sR, xK_sA, xR_sA, xS_sA, xN_sA, Nat.reduceAdd, Nat.reduceLeDiff, sI_sA, I_sA', sA_sA, I_sA, I_sA', nI_add, mul_nI, bI_0, bI_1, f.k, f.r0, f.r1, f.r2, f.k2, f.r4, f.k4, f.r5, f.k5, f.r6, f.k6, f.r7, f.k7, f.r9, f.k9, k.k, k.r0, k.k0, k.rl, k.r1, k.r2, k.ac.k, k.lo.k, ix_nI, cl_nI]; done) | omega | assumption) only [c96, e96_0, e96_1, e96_2, e96_3, e96_6, e96_7, e96_8, e96_10, e96_13, e96_15, e96_16, e96_17, e96_20, e96_23, e96_24, e96_27, e96_30, e96_31, e96_32, e96_35, e96_36, e96_37, e96_40, e96_43, e96_46, e96_47, e96_48, am_k_some, va_rf_some, va_rf_none, tl_some, tl_none, am_clr_int, am_clr_ref, am_clr_none, am_clr_long, am_w_nil, am_w_int, am_w_ref, am_w_long, am_w_null, am_bb_0, am_bb_1, am_bb_bI, xK_sI, xR_sI, xS_sI, xN_sI, xK_sL, xR_sL, xS_sL, xN_sL, xK_sR, xR_sR, xS_sR, xN_sR, xK_sA, xR_sA, xS_sA, xN_sA, Nat.reduceAdd, Nat.reduceLeDiff, sI_sA, I_sA', sA_sA, I_sA, I_sA', nI_add, mul_nI, bI_0, bI_1, f.k, f.r0, f.r1, f.r2, f.k2, f.r4, f.k4, f.r5, f.k5, f.r6, f.k6, f.r7, f.k7, f.r9, f.k9, k.k, k.r0, k.k0, k.rl, k.r1, k.r2, k.ac.k, k.lo.k, ix_nI, cl_nI, lt_nI, eq_nI, sub_nI, Nat.reduceEqDiff, Nat.one_ne_zero, Nat.not_lt_zero, ↓reduceIte, C]
theorem op_8 {B : Nat} {m : am_M} {x : Int32} (G : Good B m) : Op1 B 98 172 [.int x] m := by
  obtain ⟨s, c, w, W⟩ := G
  have f := c.1
  have k := f.sh
  have fd := sp_128 (d := 38) (k := 2) f (by omega)
  by_cases h0 : x < nI 0
  · refine op_f (k := 2) c w W (by omega) ?_ (fun m1 w' => sp_172b (d := 38) (Or.inl h0) w'.1)
    simp (disch := first | (simp (disch := omega) only [am_k_some, va_rf_some, va_rf_none, tl_some, tl_none, am_clr_int, am_clr_ref, am_clr_none, am_clr_long, am_w_nil, am_w_int, am_w_ref, am_w_long, am_w_null, am_bb_0, am_bb_1, am_bb_bI, xK_sI, xR_sI, xS_sI, xN_sI, xK_sL, xR_sL, xS_sL, xN_sL, xK_sR, xR_sR, xS_sR, xN_sR, xK_sA, xR_sA, xS_sA, xN_sA, Nat.reduceAdd, Nat.reduceLeDiff, sI_sA, I_sA', sA_sA, I_sA, I_sA', nI_add, mul_nI, bI_0, bI_1, f.k, f.r0, f.r1, f.r2, f.k2, f.r4, f.k4, f.r5, f.k5, f.r6, f.k6, f.r7, f.k7, f.r9, f.k9, k.k, k.r0, k.k0, k.rl, k.r1, k.r2, k.ac.k, k.lo.k, ix_nI, cl_nI]; done) | omega | assumption) only [c98, e98_0, e98_1, e98_2, e98_4, e98_7, e98_10, e98_11, e98_12, e98_15, e98_16, e98_17, e98_20, e98_21, e98_22, am_k_some, va_rf_some, va_rf_none, tl_some, tl_none, am_clr_int, am_clr_ref, am_clr_none, am_clr_long, am_w_nil, am_w_int, am_w_ref, am_w_long, am_w_null, am_bb_0, am_bb_1, am_bb_bI, xK_sI, xR_sI, xS_sI, xN_sI, xK_sL, xR_sL, xS_sL, xN_sL, xK_sR, xR_sR, xS_sR, xN_sR, xK_sA, xR_sA, xS_sA, xN_sA, Nat.reduceAdd, Nat.reduceLeDiff, sI_sA, I_sA', sA_sA, I_sA, I_sA', nI_add, mul_nI, bI_0, bI_1, f.k, f.r0, f.r1, f.r2, f.k2, f.r4, f.k4, f.r5, f.k5, f.r6, f.k6, f.r7, f.k7, f.r9, f.k9, k.k, k.r0, k.k0, k.rl, k.r1, k.r2, k.ac.k, k.lo.k, ix_nI, cl_nI, lt_nI, eq_nI, sub_nI, Nat.reduceEqDiff, Nat.one_ne_zero, Nat.not_lt_zero, ↓reduceIte, sp_130, h0, fd]
  by_cases h4 : nI 39 < x
  · refine op_f (k := 2) c w W (by omega) ?_ (fun m1 w' => sp_172b (d := 38) (Or.inr h4) w'.1)
    simp (disch := first | (simp (disch := omega) only [am_k_some, va_rf_some, va_rf_none, tl_some, tl_none, am_clr_int, am_clr_ref, am_clr_none, am_clr_long, am_w_nil, am_w_int, am_w_ref, am_w_long, am_w_null, am_bb_0, am_bb_1, am_bb_bI, xK_sI, xR_sI, xS_sI, xN_sI, xK_sL, xR_sL, xS_sL, xN_sL, xK_sR, xR_sR, xS_sR, xN_sR, xK_sA, xR_sA, xS_sA, xN_sA, Nat.reduceAdd, Nat.reduceLeDiff, sI_sA, I_sA', sA_sA, I_sA, I_sA', nI_add, mul_nI, bI_0, bI_1, f.k, f.r0, f.r1, f.r2, f.k2, f.r4, f.k4, f.r5, f.k5, f.r6, f.k6, f.r7, f.k7, f.r9, f.k9, k.k, k.r0, k.k0, k.rl, k.r1, k.r2, k.ac.k, k.lo.k, ix_nI, cl_nI]; done) | omega | assumption) only [c98, e98_0, e98_1, e98_2, e98_4, e98_7, e98_10, e98_11, e98_12, e98_15, e98_16, e98_17, e98_20, e98_21, e98_22, am_k_some, va_rf_some, va_rf_none, tl_some, tl_none, am_clr_int, am_clr_ref, am_clr_none, am_clr_long, am_w_nil, am_w_int, am_w_ref, am_w_long, am_w_null, am_bb_0, am_bb_1, am_bb_bI, xK_sI, xR_sI, xS_sI, xN_sI, xK_sL, xR_sL, xS_sL, xN_sL, xK_sR, xR_sR, xS_sR, xN_sR, xK_sA, xR_sA, xS_sA, xN_sA, Nat.reduceAdd, Nat.reduceLeDiff, sI_sA, I_sA', sA_sA, I_sA, I_sA', nI_add, mul_nI, bI_0, bI_1, f.k, f.r0, f.r1, f.r2, f.k2, f.r4, f.k4, f.r5, f.k5, f.r6, f.k6, f.r7, f.k7, f.r9, f.k9, k.k, k.r0, k.k0, k.rl, k.r1, k.r2, k.ac.k, k.lo.k, ix_nI, cl_nI, lt_nI, eq_nI, sub_nI, Nat.reduceEqDiff, Nat.one_ne_zero, Nat.not_lt_zero, ↓reduceIte, sp_130, h0, h4, fd]
  obtain ⟨q, hq, rfl⟩ := rngU x 39 (by omega) h0 h4
  have q0 : ¬ q < 0 := by omega
  have q4 : ¬ 39 < q := by omega
  have M := sp_172 (d := 38) w.1 (show q < 40 by omega)
  rw [w.2.2.2.1] at M
  refine op_r c w W _ ?_ M
  have hP := c.2.2.1 q (by omega)
  simp (disch := first | (simp (disch := omega) only [am_k_some, va_rf_some, va_rf_none, tl_some, tl_none, am_clr_int, am_clr_ref, am_clr_none, am_clr_long, am_w_nil, am_w_int, am_w_ref, am_w_long, am_w_null, am_bb_0, am_bb_1, am_bb_bI, xK_sI, xR_sI, xS_sI, xN_sI, xK_sL, xR_sL, xS_sL, xN_sL, xK_sR, xR_sR, xS_sR, xN_sR, xK_sA, xR_sA, xS_sA, xN_sA, Nat.reduceAdd, Nat.reduceLeDiff, sI_sA, I_sA', sA_sA, I_sA, I_sA', nI_add, mul_nI, bI_0, bI_1, f.k, f.r0, f.r1, f.r2, f.k2, f.r4, f.k4, f.r5, f.k5, f.r6, f.k6, f.r7, f.k7, f.r9, f.k9, k.k, k.r0, k.k0, k.rl, k.r1, k.r2, k.ac.k, k.lo.k, ix_nI, cl_nI]; done) | omega | assumption) only [c98, e98_0, e98_1, e98_2, e98_4, e98_7, e98_10, e98_11, e98_12, e98_15, e98_16, e98_17, e98_20, e98_21, e98_22, am_k_some, va_rf_some, va_rf_none, tl_some, tl_none, am_clr_int, am_clr_ref, am_clr_none, am_clr_long, am_w_nil, am_w_int, am_w_ref, am_w_long, am_w_null, am_bb_0, am_bb_1, am_bb_bI, xK_sI, xR_sI, xS_sI, xN_sI, xK_sL, xR_sL, xS_sL, xN_sL, xK_sR, xR_sR, xS_sR, xN_sR, xK_sA, xR_sA, xS_sA, xN_sA, Nat.reduceAdd, Nat.reduceLeDiff, sI_sA, I_sA', sA_sA, I_sA, I_sA', nI_add, mul_nI, bI_0, bI_1, f.k, f.r0, f.r1, f.r2, f.k2, f.r4, f.k4, f.r5, f.k5, f.r6, f.k6, f.r7, f.k7, f.r9, f.k9, k.k, k.r0, k.k0, k.rl, k.r1, k.r2, k.ac.k, k.lo.k, ix_nI, cl_nI, lt_nI, eq_nI, sub_nI, Nat.reduceEqDiff, Nat.one_ne_zero, Nat.not_lt_zero, ↓reduceIte, n10, sp_130, q0, q4, hP]
theorem op_9 {B : Nat} {m : am_M} {x e : Int32} (G : Good B m) : Op1 B 99 173 [.int x, .int e] m := by
  obtain ⟨s, c, w, W⟩ := G
  have f := c.1
  have k := f.sh
  have v := c.2.1
  have Q := W.1
  rcases rng x 20 (by omega) with hb | ⟨i, hi, rfl⟩
  · refine op_r c w W (-1) ?_ (sp_173b (d := 36) (Or.inl hb) w.1)
    simp (disch := first | (simp (disch := omega) only [am_k_some, va_rf_some, va_rf_none, tl_some, tl_none, am_clr_int, am_clr_ref, am_clr_none, am_clr_long, am_w_nil, am_w_int, am_w_ref, am_w_long, am_w_null, am_bb_0, am_bb_1, am_bb_bI, xK_sI, xR_sI, xS_sI, xN_sI, xK_sL, xR_sL, xS_sL, xN_sL, xK_sR, xR_sR, xS_sR, xN_sR, xK_sA, xR_sA, xS_sA, xN_sA, Nat.reduceAdd, Nat.reduceLeDiff, sI_sA, I_sA', sA_sA, I_sA, I_sA', nI_add, mul_nI, bI_0, bI_1, f.k, f.r0, f.r1, f.r2, f.k2, f.r4, f.k4, f.r5, f.k5, f.r6, f.k6, f.r7, f.k7, f.r9, f.k9, k.k, k.r0, k.k0, k.rl, k.r1, k.r2, k.ac.k, k.lo.k, ix_nI, cl_nI]; done) | omega | assumption) only [c99, e99_0, e99_1, e99_4, e99_14, e99_15, am_k_some, va_rf_some, va_rf_none, tl_some, tl_none, am_clr_int, am_clr_ref, am_clr_none, am_clr_long, am_w_nil, am_w_int, am_w_ref, am_w_long, am_w_null, am_bb_0, am_bb_1, am_bb_bI, xK_sI, xR_sI, xS_sI, xN_sI, xK_sL, xR_sL, xS_sL, xN_sL, xK_sR, xR_sR, xS_sR, xN_sR, xK_sA, xR_sA, xS_sA, xN_sA, Nat.reduceAdd, Nat.reduceLeDiff, sI_sA, I_sA', sA_sA, I_sA, I_sA', nI_add, mul_nI, bI_0, bI_1, f.k, f.r0, f.r1, f.r2, f.k2, f.r4, f.k4, f.r5, f.k5, f.r6, f.k6, f.r7, f.k7, f.r9, f.k9, k.k, k.r0, k.k0, k.rl, k.r1, k.r2, k.ac.k, k.lo.k, ix_nI, cl_nI, lt_nI, eq_nI, sub_nI, Nat.reduceEqDiff, Nat.one_ne_zero, Nat.not_lt_zero, ↓reduceIte, sp_131b hb]
  rcases rngE e with he | he
  · have kl := k.la i hi
    have th := sh_th (d := 38) k v Q.t Q.ln hi
    have is := sp_132v (d := 38) (m := m) he
    have M := sp_173 (d := 36) w.1 hi he (by rw [w.2.1]; exact Q.ln)
    rw [w.2.1] at M
    refine op_r c w W _ ?_ M
    unfold freeA
    by_cases ht : stS s (800 + i) = nI 1
    · rw [decide_eq_true ht] at th
      have op := sh_open (d := 38) k v Q.t hi ht he
      have wy := sh_way (d := 37) (e := e) k v Q.ln hi ht
      rw [if_pos ht]
      cases ho : opS (stS s) i e with
      | true =>
        rw [ho] at op
        simp (disch := first | (simp (disch := omega) only [am_k_some, va_rf_some, va_rf_none, tl_some, tl_none, am_clr_int, am_clr_ref, am_clr_none, am_clr_long, am_w_nil, am_w_int, am_w_ref, am_w_long, am_w_null, am_bb_0, am_bb_1, am_bb_bI, xK_sI, xR_sI, xS_sI, xN_sI, xK_sL, xR_sL, xS_sL, xN_sL, xK_sR, xR_sR, xS_sR, xN_sR, xK_sA, xR_sA, xS_sA, xN_sA, Nat.reduceAdd, Nat.reduceLeDiff, sI_sA, I_sA', sA_sA, I_sA, I_sA', nI_add, mul_nI, bI_0, bI_1, f.k, f.r0, f.r1, f.r2, f.k2, f.r4, f.k4, f.r5, f.k5, f.r6, f.k6, f.r7, f.k7, f.r9, f.k9, k.k, k.r0, k.k0, k.rl, k.r1, k.r2, k.ac.k, k.lo.k, kl.k, kl.r0, kl.k0, ix_nI, cl_nI]; done) | omega | assumption) only [c99, e99_0, e99_1, e99_4, e99_7, e99_8, e99_11, e99_14, e99_15, e99_16, e99_17, e99_20, e99_23, e99_24, e99_25, e99_28, e99_31, e99_33, e99_34, e99_35, e99_38, e99_41, e99_42, e99_43, e99_44, e99_47, e99_50, e99_52, e99_53, e99_54, e99_57, e99_60, e99_61, e99_62, e99_63, e99_66, am_k_some, va_rf_some, va_rf_none, tl_some, tl_none, am_clr_int, am_clr_ref, am_clr_none, am_clr_long, am_w_nil, am_w_int, am_w_ref, am_w_long, am_w_null, am_bb_0, am_bb_1, am_bb_bI, xK_sI, xR_sI, xS_sI, xN_sI, xK_sL, xR_sL, xS_sL, xN_sL, xK_sR, xR_sR, xS_sR, xN_sR, xK_sA, xR_sA, xS_sA, xN_sA, Nat.reduceAdd, Nat.reduceLeDiff, sI_sA, I_sA', sA_sA, I_sA, I_sA', nI_add, mul_nI, bI_0, bI_1, f.k, f.r0, f.r1, f.r2, f.k2, f.r4, f.k4, f.r5, f.k5, f.r6, f.k6, f.r7, f.k7, f.r9, f.k9, k.k, k.r0, k.k0, k.rl, k.r1, k.r2, k.ac.k, k.lo.k, ix_nI, cl_nI, lt_nI, eq_nI, sub_nI, Nat.reduceEqDiff, Nat.one_ne_zero, Nat.not_lt_zero, ↓reduceIte, n10, n01, sp_131v, is, th, bI_t, op, wy, if_true]
      | false =>
        rw [ho] at op
        simp (disch := first | (simp (disch := omega) only [am_k_some, va_rf_some, va_rf_none, tl_some, tl_none, am_clr_int, am_clr_ref, am_clr_none, am_clr_long, am_w_nil, am_w_int, am_w_ref, am_w_long, am_w_null, am_bb_0, am_bb_1, am_bb_bI, xK_sI, xR_sI, xS_sI, xN_sI, xK_sL, xR_sL, xS_sL, xN_sL, xK_sR, xR_sR, xS_sR, xN_sR, xK_sA, xR_sA, xS_sA, xN_sA, Nat.reduceAdd, Nat.reduceLeDiff, sI_sA, I_sA', sA_sA, I_sA, I_sA', nI_add, mul_nI, bI_0, bI_1, f.k, f.r0, f.r1, f.r2, f.k2, f.r4, f.k4, f.r5, f.k5, f.r6, f.k6, f.r7, f.k7, f.r9, f.k9, k.k, k.r0, k.k0, k.rl, k.r1, k.r2, k.ac.k, k.lo.k, kl.k, kl.r0, kl.k0, ix_nI, cl_nI]; done) | omega | assumption) only [c99, e99_0, e99_1, e99_4, e99_7, e99_8, e99_11, e99_14, e99_15, e99_16, e99_17, e99_20, e99_23, e99_24, e99_25, e99_28, e99_31, e99_33, e99_34, e99_35, e99_38, e99_41, e99_42, e99_43, e99_44, e99_47, e99_50, e99_52, e99_53, e99_54, e99_57, e99_60, e99_61, e99_62, e99_63, e99_66, am_k_some, va_rf_some, va_rf_none, tl_some, tl_none, am_clr_int, am_clr_ref, am_clr_none, am_clr_long, am_w_nil, am_w_int, am_w_ref, am_w_long, am_w_null, am_bb_0, am_bb_1, am_bb_bI, xK_sI, xR_sI, xS_sI, xN_sI, xK_sL, xR_sL, xS_sL, xN_sL, xK_sR, xR_sR, xS_sR, xN_sR, xK_sA, xR_sA, xS_sA, xN_sA, Nat.reduceAdd, Nat.reduceLeDiff, sI_sA, I_sA', sA_sA, I_sA, I_sA', nI_add, mul_nI, bI_0, bI_1, f.k, f.r0, f.r1, f.r2, f.k2, f.r4, f.k4, f.r5, f.k5, f.r6, f.k6, f.r7, f.k7, f.r9, f.k9, k.k, k.r0, k.k0, k.rl, k.r1, k.r2, k.ac.k, k.lo.k, ix_nI, cl_nI, lt_nI, eq_nI, sub_nI, Nat.reduceEqDiff, Nat.one_ne_zero, Nat.not_lt_zero, ↓reduceIte, n10, n01, sp_131v, is, th, bI_t, bI_f, op, Bool.false_eq_true, if_false]
    · rw [decide_eq_false ht] at th
      rw [if_neg ht]
      simp (disch := first | (simp (disch := omega) only [am_k_some, va_rf_some, va_rf_none, tl_some, tl_none, am_clr_int, am_clr_ref, am_clr_none, am_clr_long, am_w_nil, am_w_int, am_w_ref, am_w_long, am_w_null, am_bb_0, am_bb_1, am_bb_bI, xK_sI, xR_sI, xS_sI, xN_sI, xK_sL, xR_sL, xS_sL, xN_sL, xK_sR, xR_sR, xS_sR, xN_sR, xK_sA, xR_sA, xS_sA, xN_sA, Nat.reduceAdd, Nat.reduceLeDiff, sI_sA, I_sA', sA_sA, I_sA, I_sA', nI_add, mul_nI, bI_0, bI_1, f.k, f.r0, f.r1, f.r2, f.k2, f.r4, f.k4, f.r5, f.k5, f.r6, f.k6, f.r7, f.k7, f.r9, f.k9, k.k, k.r0, k.k0, k.rl, k.r1, k.r2, k.ac.k, k.lo.k, kl.k, kl.r0, kl.k0, ix_nI, cl_nI]; done) | omega | assumption) only [c99, e99_0, e99_1, e99_4, e99_7, e99_8, e99_11, e99_14, e99_15, e99_16, e99_17, e99_20, e99_23, e99_24, e99_25, e99_28, e99_31, e99_33, e99_34, e99_35, e99_38, e99_41, e99_42, e99_43, e99_44, e99_47, e99_50, e99_52, e99_53, e99_54, e99_57, e99_60, e99_61, e99_62, e99_63, e99_66, am_k_some, va_rf_some, va_rf_none, tl_some, tl_none, am_clr_int, am_clr_ref, am_clr_none, am_clr_long, am_w_nil, am_w_int, am_w_ref, am_w_long, am_w_null, am_bb_0, am_bb_1, am_bb_bI, xK_sI, xR_sI, xS_sI, xN_sI, xK_sL, xR_sL, xS_sL, xN_sL, xK_sR, xR_sR, xS_sR, xN_sR, xK_sA, xR_sA, xS_sA, xN_sA, Nat.reduceAdd, Nat.reduceLeDiff, sI_sA, I_sA', sA_sA, I_sA, I_sA', nI_add, mul_nI, bI_0, bI_1, f.k, f.r0, f.r1, f.r2, f.k2, f.r4, f.k4, f.r5, f.k5, f.r6, f.k6, f.r7, f.k7, f.r9, f.k9, k.k, k.r0, k.k0, k.rl, k.r1, k.r2, k.ac.k, k.lo.k, ix_nI, cl_nI, lt_nI, eq_nI, sub_nI, Nat.reduceEqDiff, Nat.one_ne_zero, Nat.not_lt_zero, ↓reduceIte, n10, n01, sp_131v, is, th, bI_f]
  · refine op_r c w W (-1) ?_ (sp_173b (d := 36) (Or.inr he) w.1)
    have is := sp_132b (d := 38) (m := m) he
    simp (disch := first | (simp (disch := omega) only [am_k_some, va_rf_some, va_rf_none, tl_some, tl_none, am_clr_int, am_clr_ref, am_clr_none, am_clr_long, am_w_nil, am_w_int, am_w_ref, am_w_long, am_w_null, am_bb_0, am_bb_1, am_bb_bI, xK_sI, xR_sI, xS_sI, xN_sI, xK_sL, xR_sL, xS_sL, xN_sL, xK_sR, xR_sR, xS_sR, xN_sR, xK_sA, xR_sA, xS_sA, xN_sA, Nat.reduceAdd, Nat.reduceLeDiff, sI_sA, I_sA', sA_sA, I_sA, I_sA', nI_add, mul_nI, bI_0, bI_1, f.k, f.r0, f.r1, f.r2, f.k2, f.r4, f.k4, f.r5, f.k5, f.r6, f.k6, f.r7, f.k7, f.r9, f.k9, k.k, k.r0, k.k0, k.rl, k.r1, k.r2, k.ac.k, k.lo.k, ix_nI, cl_nI]; done) | omega | assumption) only [c99, e99_0, e99_1, e99_4, e99_7, e99_8, e99_11, e99_14, e99_15, am_k_some, va_rf_some, va_rf_none, tl_some, tl_none, am_clr_int, am_clr_ref, am_clr_none, am_clr_long, am_w_nil, am_w_int, am_w_ref, am_w_long, am_w_null, am_bb_0, am_bb_1, am_bb_bI, xK_sI, xR_sI, xS_sI, xN_sI, xK_sL, xR_sL, xS_sL, xN_sL, xK_sR, xR_sR, xS_sR, xN_sR, xK_sA, xR_sA, xS_sA, xN_sA, Nat.reduceAdd, Nat.reduceLeDiff, sI_sA, I_sA', sA_sA, I_sA, I_sA', nI_add, mul_nI, bI_0, bI_1, f.k, f.r0, f.r1, f.r2, f.k2, f.r4, f.k4, f.r5, f.k5, f.r6, f.k6, f.r7, f.k7, f.r9, f.k9, k.k, k.r0, k.k0, k.rl, k.r1, k.r2, k.ac.k, k.lo.k, ix_nI, cl_nI, lt_nI, eq_nI, sub_nI, Nat.reduceEqDiff, Nat.one_ne_zero, Nat.not_lt_zero, ↓reduceIte, n10, sp_131v, is]
/-! copy -/
theorem good_P {m : am_M} {B n : Nat} {s : St} {F : Nat → Int32} (c : CI m B s) (w : MI m (B + 82) s) (W : Wst s) (g : Nat → Int32) (h : ∀ j, j < 40 → F j = g j) : Good B (sA (sA m (B + 79) F) (B + 82 + 8) g) ∧ Bel B m (sA (sA m (B + 79) F) (B + 82 + 8) g) := by
  obtain ⟨c0, c1, c2, c3, c4, c5, c6, c7, ix, c8⟩ := c
  have fr : FrP (fun x => x = B + 79 ∨ x = B + 82 + 8) m (sA (sA m (B + 79) F) (B + 82 + 8) g) := ((FrP.refl _ m).sA (Or.inl rfl)).sA (Or.inr rfl)
  obtain ⟨w0, w1, w2, w3, w4, w5, w6, w7, w8, w9⟩ := w
  refine ⟨⟨(stS s, stL s, g, stN s, stF s, stD s, stZ s, stW s, stK s), ⟨c0.fr fr, c1.keep (fun y y1 y2 => fr.i (by omega)) (fr.l (by omega)), ?_, ?_, ?_, ?_, ?_, ?_, ix, c8.fr fr (fun x hx => by omega)⟩, ⟨w0.frP fr, ?_, ?_, ?_, ?_, ?_, ?_, ?_, ?_, ?_⟩, W⟩, fr.bel (fun x hx => by omega)⟩
  · intro j hj
    rw [I_sA' _ _ (by omega), I_sA]
    exact h j hj
  · rw [fr.i (by omega)]; exact c3
  · rw [fr.i (by omega)]; exact c4
  · rw [fr.i (by omega)]; exact c5
  · rw [fr.i (by omega)]; exact c6
  · unfold ReV
    rw [fr.l (by omega)]
    exact c7
  · rw [fr.i (by omega)]; exact w1
  · rw [fr.l (by omega)]; exact w2
  · rw [I_sA]; rfl
  · rw [fr.i (by omega)]; exact w4
  · rw [fr.i (by omega)]; exact w5
  · rw [fr.i (by omega)]; exact w6
  · rw [fr.i (by omega)]; exact w7
  · rw [fr.i (by omega), fr.l (by omega)]; exact w8
  · intro j hj
    rw [fr.i (by omega), fr.i (by omega), fr.l (by omega)]
    exact w9 j hj
theorem lg_ok {x y : Int32} {n : Nat} (hn : n ≤ 40) (hx : ¬ x < nI 0) (hy : ¬ y < nI 0) : ((nI n).toInt64 < x.toInt64 + y.toInt64) ↔ (nI n - y < x) := by
  have z0 : (nI 0).toInt = 0 := by decide
  rw [Int32.lt_iff_toInt_lt, z0] at hx hy
  have bx := Int32.toInt_lt x
  have by' := Int32.toInt_lt y
  have hnT : (nI n).toInt = n := nI_toInt (by omega)
  rw [Int64.lt_iff_toInt_lt, Int32.lt_iff_toInt_lt, Int64.toInt_add, Int32.toInt_sub, Int32.toInt_toInt64, Int32.toInt_toInt64, Int32.toInt_toInt64, hnT]
  rw [Int.bmod_eq_of_le (by omega) (by omega), Int.bmod_eq_of_le (by omega) (by omega)]
  omega
theorem op_7 {B : Nat} {m : am_M} {x y z : Int32} (G : Good B m) : Op1 B 97 171 [.int x, .int y, .int z] m := by
  obtain ⟨s, c, w, W⟩ := G
  have f := c.1
  have k := f.sh
  have v := c.2.1
  have Q := W.1
  have fd2 := sp_128 (d := 38) (k := 2) f (by omega)
  have fd1 := sp_128 (d := 38) (k := 1) f (by omega)
  have fd5 := sp_128 (d := 38) (k := 5) f (by omega)
  rcases rng x 20 (by omega) with hb | ⟨i, hi, rfl⟩
  · refine op_f (k := 2) c w W (by omega) ?_ (fun m1 w' => sp_171b (d := 37) hb w'.1)
    simp (disch := first | (simp (disch := omega) only [am_k_some, va_rf_some, va_rf_none, tl_some, tl_none, am_clr_int, am_clr_ref, am_clr_none, am_clr_long, am_w_nil, am_w_int, am_w_ref, am_w_long, am_w_null, am_bb_0, am_bb_1, am_bb_bI, xK_sI, xR_sI, xS_sI, xN_sI, xK_sL, xR_sL, xS_sL, xN_sL, xK_sR, xR_sR, xS_sR, xN_sR, xK_sA, xR_sA, xS_sA, xN_sA, Nat.reduceAdd, Nat.reduceLeDiff, sI_sA, I_sA', sA_sA, I_sA, I_sA', nI_add, mul_nI, bI_0, bI_1, f.k, f.r0, f.r1, f.r2, f.k2, f.r4, f.k4, f.r5, f.k5, f.r6, f.k6, f.r7, f.k7, f.r9, f.k9, k.k, k.r0, k.k0, k.rl, k.r1, k.r2, k.ac.k, k.lo.k, ix_nI, cl_nI]; done) | omega | assumption) only [c97, e97_0, e97_1, e97_4, e97_7, e97_8, e97_9, e97_12, am_k_some, va_rf_some, va_rf_none, tl_some, tl_none, am_clr_int, am_clr_ref, am_clr_none, am_clr_long, am_w_nil, am_w_int, am_w_ref, am_w_long, am_w_null, am_bb_0, am_bb_1, am_bb_bI, xK_sI, xR_sI, xS_sI, xN_sI, xK_sL, xR_sL, xS_sL, xN_sL, xK_sR, xR_sR, xS_sR, xN_sR, xK_sA, xR_sA, xS_sA, xN_sA, Nat.reduceAdd, Nat.reduceLeDiff, sI_sA, I_sA', sA_sA, I_sA, I_sA', nI_add, mul_nI, bI_0, bI_1, f.k, f.r0, f.r1, f.r2, f.k2, f.r4, f.k4, f.r5, f.k5, f.r6, f.k6, f.r7, f.k7, f.r9, f.k9, k.k, k.r0, k.k0, k.rl, k.r1, k.r2, k.ac.k, k.lo.k, ix_nI, cl_nI, lt_nI, eq_nI, sub_nI, Nat.reduceEqDiff, Nat.one_ne_zero, Nat.not_lt_zero, ↓reduceIte, sp_131b hb, fd2]
  have kl := k.la i hi
  obtain ⟨l1, l2⟩ := Q.ln i hi
  have th := sh_th (d := 38) k v Q.t Q.ln hi
  by_cases ht : stS s (800 + i) = nI 1
  · rw [decide_eq_true ht] at th
    have hlen : mI m (B + 1 + 26 + 2 * i) 1 = nI (ln (stS s) i) := by rw [(v.la hi).1, lenS_t ht]
    by_cases h1 : y < nI 0
    · refine op_f (k := 5) c w W (by omega) ?_ (fun m1 w' => sp_171f (d := 37) hi w'.1 (by rw [w'.2.1]; exact ht) (Or.inl h1))
      simp (disch := first | (simp (disch := omega) only [am_k_some, va_rf_some, va_rf_none, tl_some, tl_none, am_clr_int, am_clr_ref, am_clr_none, am_clr_long, am_w_nil, am_w_int, am_w_ref, am_w_long, am_w_null, am_bb_0, am_bb_1, am_bb_bI, xK_sI, xR_sI, xS_sI, xN_sI, xK_sL, xR_sL, xS_sL, xN_sL, xK_sR, xR_sR, xS_sR, xN_sR, xK_sA, xR_sA, xS_sA, xN_sA, Nat.reduceAdd, Nat.reduceLeDiff, sI_sA, I_sA', sA_sA, I_sA, I_sA', nI_add, mul_nI, bI_0, bI_1, f.k, f.r0, f.r1, f.r2, f.k2, f.r4, f.k4, f.r5, f.k5, f.r6, f.k6, f.r7, f.k7, f.r9, f.k9, k.k, k.r0, k.k0, k.rl, k.r1, k.r2, k.ac.k, k.lo.k, kl.k, kl.r0, kl.k0, ix_nI, cl_nI]; done) | omega | assumption) only [c97, e97_0, e97_1, e97_4, e97_7, e97_8, e97_9, e97_12, e97_13, e97_14, e97_17, e97_20, e97_21, e97_22, e97_25, e97_28, e97_29, e97_30, e97_33, e97_34, e97_35, e97_38, e97_39, e97_42, e97_43, e97_44, e97_45, e97_46, e97_47, e97_48, e97_51, e97_54, e97_55, e97_56, e97_59, e97_60, e97_61, e97_64, e97_65, e97_67, e97_70, e97_71, e97_72, e97_75, e97_76, e97_77, e97_80, e97_83, e97_84, e97_85, e97_88, e97_89, e97_90, e97_93, e97_94, e97_95, e97_98, e97_99, am_k_some, va_rf_some, va_rf_none, tl_some, tl_none, am_clr_int, am_clr_ref, am_clr_none, am_clr_long, am_w_nil, am_w_int, am_w_ref, am_w_long, am_w_null, am_bb_0, am_bb_1, am_bb_bI, xK_sI, xR_sI, xS_sI, xN_sI, xK_sL, xR_sL, xS_sL, xN_sL, xK_sR, xR_sR, xS_sR, xN_sR, xK_sA, xR_sA, xS_sA, xN_sA, Nat.reduceAdd, Nat.reduceLeDiff, sI_sA, I_sA', sA_sA, I_sA, I_sA', nI_add, mul_nI, bI_0, bI_1, f.k, f.r0, f.r1, f.r2, f.k2, f.r4, f.k4, f.r5, f.k5, f.r6, f.k6, f.r7, f.k7, f.r9, f.k9, k.k, k.r0, k.k0, k.rl, k.r1, k.r2, k.ac.k, k.lo.k, ix_nI, cl_nI, lt_nI, eq_nI, sub_nI, Nat.reduceEqDiff, Nat.one_ne_zero, Nat.not_lt_zero, ↓reduceIte, n10, n01, sp_131v, fd1, fd2, fd5, lc_gt, lc_lt, kl.k, kl.r0, kl.k0, th, bI_t, h1]
    by_cases h2 : z < nI 0
    · refine op_f (k := 5) c w W (by omega) ?_ (fun m1 w' => sp_171f (d := 37) hi w'.1 (by rw [w'.2.1]; exact ht) (Or.inr (Or.inl h2)))
      simp (disch := first | (simp (disch := omega) only [am_k_some, va_rf_some, va_rf_none, tl_some, tl_none, am_clr_int, am_clr_ref, am_clr_none, am_clr_long, am_w_nil, am_w_int, am_w_ref, am_w_long, am_w_null, am_bb_0, am_bb_1, am_bb_bI, xK_sI, xR_sI, xS_sI, xN_sI, xK_sL, xR_sL, xS_sL, xN_sL, xK_sR, xR_sR, xS_sR, xN_sR, xK_sA, xR_sA, xS_sA, xN_sA, Nat.reduceAdd, Nat.reduceLeDiff, sI_sA, I_sA', sA_sA, I_sA, I_sA', nI_add, mul_nI, bI_0, bI_1, f.k, f.r0, f.r1, f.r2, f.k2, f.r4, f.k4, f.r5, f.k5, f.r6, f.k6, f.r7, f.k7, f.r9, f.k9, k.k, k.r0, k.k0, k.rl, k.r1, k.r2, k.ac.k, k.lo.k, kl.k, kl.r0, kl.k0, ix_nI, cl_nI]; done) | omega | assumption) only [c97, e97_0, e97_1, e97_4, e97_7, e97_8, e97_9, e97_12, e97_13, e97_14, e97_17, e97_20, e97_21, e97_22, e97_25, e97_28, e97_29, e97_30, e97_33, e97_34, e97_35, e97_38, e97_39, e97_42, e97_43, e97_44, e97_45, e97_46, e97_47, e97_48, e97_51, e97_54, e97_55, e97_56, e97_59, e97_60, e97_61, e97_64, e97_65, e97_67, e97_70, e97_71, e97_72, e97_75, e97_76, e97_77, e97_80, e97_83, e97_84, e97_85, e97_88, e97_89, e97_90, e97_93, e97_94, e97_95, e97_98, e97_99, am_k_some, va_rf_some, va_rf_none, tl_some, tl_none, am_clr_int, am_clr_ref, am_clr_none, am_clr_long, am_w_nil, am_w_int, am_w_ref, am_w_long, am_w_null, am_bb_0, am_bb_1, am_bb_bI, xK_sI, xR_sI, xS_sI, xN_sI, xK_sL, xR_sL, xS_sL, xN_sL, xK_sR, xR_sR, xS_sR, xN_sR, xK_sA, xR_sA, xS_sA, xN_sA, Nat.reduceAdd, Nat.reduceLeDiff, sI_sA, I_sA', sA_sA, I_sA, I_sA', nI_add, mul_nI, bI_0, bI_1, f.k, f.r0, f.r1, f.r2, f.k2, f.r4, f.k4, f.r5, f.k5, f.r6, f.k6, f.r7, f.k7, f.r9, f.k9, k.k, k.r0, k.k0, k.rl, k.r1, k.r2, k.ac.k, k.lo.k, ix_nI, cl_nI, lt_nI, eq_nI, sub_nI, Nat.reduceEqDiff, Nat.one_ne_zero, Nat.not_lt_zero, ↓reduceIte, n10, n01, sp_131v, fd1, fd2, fd5, lc_gt, lc_lt, kl.k, kl.r0, kl.k0, th, bI_t, h1, h2]
    have lg := lg_ok (n := ln (stS s) i) l2 h1 h2
    by_cases h3 : (nI (ln (stS s) i)).toInt64 < y.toInt64 + z.toInt64
    · refine op_f (k := 5) c w W (by omega) ?_ (fun m1 w' => sp_171f (d := 37) hi w'.1 (by rw [w'.2.1]; exact ht) (Or.inr (Or.inr (Or.inr (by rw [w'.2.1, l1]; exact lg.mp h3)))))
      simp (disch := first | (simp (disch := omega) only [am_k_some, va_rf_some, va_rf_none, tl_some, tl_none, am_clr_int, am_clr_ref, am_clr_none, am_clr_long, am_w_nil, am_w_int, am_w_ref, am_w_long, am_w_null, am_bb_0, am_bb_1, am_bb_bI, xK_sI, xR_sI, xS_sI, xN_sI, xK_sL, xR_sL, xS_sL, xN_sL, xK_sR, xR_sR, xS_sR, xN_sR, xK_sA, xR_sA, xS_sA, xN_sA, Nat.reduceAdd, Nat.reduceLeDiff, sI_sA, I_sA', sA_sA, I_sA, I_sA', nI_add, mul_nI, bI_0, bI_1, f.k, f.r0, f.r1, f.r2, f.k2, f.r4, f.k4, f.r5, f.k5, f.r6, f.k6, f.r7, f.k7, f.r9, f.k9, k.k, k.r0, k.k0, k.rl, k.r1, k.r2, k.ac.k, k.lo.k, kl.k, kl.r0, kl.k0, ix_nI, cl_nI]; done) | omega | assumption) only [c97, e97_0, e97_1, e97_4, e97_7, e97_8, e97_9, e97_12, e97_13, e97_14, e97_17, e97_20, e97_21, e97_22, e97_25, e97_28, e97_29, e97_30, e97_33, e97_34, e97_35, e97_38, e97_39, e97_42, e97_43, e97_44, e97_45, e97_46, e97_47, e97_48, e97_51, e97_54, e97_55, e97_56, e97_59, e97_60, e97_61, e97_64, e97_65, e97_67, e97_70, e97_71, e97_72, e97_75, e97_76, e97_77, e97_80, e97_83, e97_84, e97_85, e97_88, e97_89, e97_90, e97_93, e97_94, e97_95, e97_98, e97_99, am_k_some, va_rf_some, va_rf_none, tl_some, tl_none, am_clr_int, am_clr_ref, am_clr_none, am_clr_long, am_w_nil, am_w_int, am_w_ref, am_w_long, am_w_null, am_bb_0, am_bb_1, am_bb_bI, xK_sI, xR_sI, xS_sI, xN_sI, xK_sL, xR_sL, xS_sL, xN_sL, xK_sR, xR_sR, xS_sR, xN_sR, xK_sA, xR_sA, xS_sA, xN_sA, Nat.reduceAdd, Nat.reduceLeDiff, sI_sA, I_sA', sA_sA, I_sA, I_sA', nI_add, mul_nI, bI_0, bI_1, f.k, f.r0, f.r1, f.r2, f.k2, f.r4, f.k4, f.r5, f.k5, f.r6, f.k6, f.r7, f.k7, f.r9, f.k9, k.k, k.r0, k.k0, k.rl, k.r1, k.r2, k.ac.k, k.lo.k, ix_nI, cl_nI, lt_nI, eq_nI, sub_nI, Nat.reduceEqDiff, Nat.one_ne_zero, Nat.not_lt_zero, ↓reduceIte, n10, n01, sp_131v, fd1, fd2, fd5, lc_gt, lc_lt, kl.k, kl.r0, kl.k0, th, bI_t, h1, h2, hlen, h3]
    have h3' : ¬ nI (ln (stS s) i) - z < y := fun q => h3 (lg.mpr q)
    by_cases h4 : nI 40 < z
    · refine op_f (k := 5) c w W (by omega) ?_ (fun m1 w' => sp_171f (d := 37) hi w'.1 (by rw [w'.2.1]; exact ht) (Or.inr (Or.inr (Or.inl h4))))
      simp (disch := first | (simp (disch := omega) only [am_k_some, va_rf_some, va_rf_none, tl_some, tl_none, am_clr_int, am_clr_ref, am_clr_none, am_clr_long, am_w_nil, am_w_int, am_w_ref, am_w_long, am_w_null, am_bb_0, am_bb_1, am_bb_bI, xK_sI, xR_sI, xS_sI, xN_sI, xK_sL, xR_sL, xS_sL, xN_sL, xK_sR, xR_sR, xS_sR, xN_sR, xK_sA, xR_sA, xS_sA, xN_sA, Nat.reduceAdd, Nat.reduceLeDiff, sI_sA, I_sA', sA_sA, I_sA, I_sA', nI_add, mul_nI, bI_0, bI_1, f.k, f.r0, f.r1, f.r2, f.k2, f.r4, f.k4, f.r5, f.k5, f.r6, f.k6, f.r7, f.k7, f.r9, f.k9, k.k, k.r0, k.k0, k.rl, k.r1, k.r2, k.ac.k, k.lo.k, kl.k, kl.r0, kl.k0, ix_nI, cl_nI]; done) | omega | assumption) only [c97, e97_0, e97_1, e97_4, e97_7, e97_8, e97_9, e97_12, e97_13, e97_14, e97_17, e97_20, e97_21, e97_22, e97_25, e97_28, e97_29, e97_30, e97_33, e97_34, e97_35, e97_38, e97_39, e97_42, e97_43, e97_44, e97_45, e97_46, e97_47, e97_48, e97_51, e97_54, e97_55, e97_56, e97_59, e97_60, e97_61, e97_64, e97_65, e97_67, e97_70, e97_71, e97_72, e97_75, e97_76, e97_77, e97_80, e97_83, e97_84, e97_85, e97_88, e97_89, e97_90, e97_93, e97_94, e97_95, e97_98, e97_99, am_k_some, va_rf_some, va_rf_none, tl_some, tl_none, am_clr_int, am_clr_ref, am_clr_none, am_clr_long, am_w_nil, am_w_int, am_w_ref, am_w_long, am_w_null, am_bb_0, am_bb_1, am_bb_bI, xK_sI, xR_sI, xS_sI, xN_sI, xK_sL, xR_sL, xS_sL, xN_sL, xK_sR, xR_sR, xS_sR, xN_sR, xK_sA, xR_sA, xS_sA, xN_sA, Nat.reduceAdd, Nat.reduceLeDiff, sI_sA, I_sA', sA_sA, I_sA, I_sA', nI_add, mul_nI, bI_0, bI_1, f.k, f.r0, f.r1, f.r2, f.k2, f.r4, f.k4, f.r5, f.k5, f.r6, f.k6, f.r7, f.k7, f.r9, f.k9, k.k, k.r0, k.k0, k.rl, k.r1, k.r2, k.ac.k, k.lo.k, ix_nI, cl_nI, lt_nI, eq_nI, sub_nI, Nat.reduceEqDiff, Nat.one_ne_zero, Nat.not_lt_zero, ↓reduceIte, n10, n01, sp_131v, fd1, fd2, fd5, lc_gt, lc_lt, kl.k, kl.r0, kl.k0, th, bI_t, h1, h2, hlen, h3, h4]
    obtain ⟨n, hn, rfl⟩ := rngU z 40 (by omega) h2 h4
    have hq : ∃ q, q + n ≤ ln (stS s) i ∧ y = nI q := by
      have z0 : (nI 0).toInt = 0 := by decide
      have hnT : (nI n).toInt = n := nI_toInt (by omega)
      have hlT : (nI (ln (stS s) i)).toInt = ln (stS s) i := nI_toInt (by omega)
      rw [Int32.lt_iff_toInt_lt, Int32.toInt_sub, hlT, hnT, Int.bmod_eq_of_le (by omega) (by omega)] at h3'
      rw [Int32.lt_iff_toInt_lt, z0] at h1
      rcases rng y 2147483647 (by omega) with hr | ⟨q, hq, rfl⟩
      · exfalso
        rcases hr with hr | hr
        · rw [Int32.lt_iff_toInt_lt, z0] at hr; omega
        · have hmT : (nI 2147483647).toInt = 2147483647 := by decide
          rw [Int32.lt_iff_toInt_lt, hmT] at hr
          omega
      · have hqT : (nI q).toInt = q := nI_toInt (by omega)
        rw [hqT] at h3'
        exact ⟨q, by omega, rfl⟩
    obtain ⟨q, hqn, rfl⟩ := hq
    have q0 : ¬ q < 0 := by omega
    have n0 : ¬ n < 0 := by omega
    have n40 : ¬ 40 < n := by omega
    obtain ⟨g1, g2⟩ := good_P (n := n) (F := va_cpy (mI m (B + 1 + 26 + 2 * i + 1)) (mI m (B + 79)) q 0 n) c w W (cpS (stP s) (stS s) (40 * i + q) n) (fun j hj => by
      unfold cpS
      by_cases hjn : j < n
      · rw [if_pos hjn, pk_cpy_in (by omega) (by omega), (v.la hi).2.2.1 _ (by rw [lenS_t ht]; omega)]
        congr 1
        omega
      · rw [if_neg hjn, pk_cpy_out (by omega)]
        exact c.2.2.1 j hj)
    have fr : FrP (fun x => x = B + 79) m (sA m (B + 79) (va_cpy (mI m (B + 1 + 26 + 2 * i + 1)) (mI m (B + 79)) q 0 n)) := (FrP.refl _ m).sA rfl
    have w' := w.fr fr (fun x h1 h2 => by omega)
    have M := sp_171 (d := 37) (q := q) (n := n) w'.1 hi (by rw [w'.2.1]; exact Q.ln) (by rw [w'.2.1]; exact ht) (by rw [w'.2.1]; exact hqn)
    rw [w'.2.1, w'.2.2.2.1] at M
    refine ⟨nI n, _, _, ?_, M, g1, g2⟩
    simp (disch := first | (simp (disch := omega) only [am_k_some, va_rf_some, va_rf_none, tl_some, tl_none, am_clr_int, am_clr_ref, am_clr_none, am_clr_long, am_w_nil, am_w_int, am_w_ref, am_w_long, am_w_null, am_bb_0, am_bb_1, am_bb_bI, xK_sI, xR_sI, xS_sI, xN_sI, xK_sL, xR_sL, xS_sL, xN_sL, xK_sR, xR_sR, xS_sR, xN_sR, xK_sA, xR_sA, xS_sA, xN_sA, Nat.reduceAdd, Nat.reduceLeDiff, sI_sA, I_sA', sA_sA, I_sA, I_sA', nI_add, mul_nI, bI_0, bI_1, f.k, f.r0, f.r1, f.r2, f.k2, f.r4, f.k4, f.r5, f.k5, f.r6, f.k6, f.r7, f.k7, f.r9, f.k9, k.k, k.r0, k.k0, k.rl, k.r1, k.r2, k.ac.k, k.lo.k, kl.k, kl.r0, kl.k0, ix_nI, cl_nI, nz_nI, not_false_eq_true]; done) | omega | assumption | (simp (disch := omega) only [am_k_some, va_rf_some, va_rf_none, tl_some, tl_none, am_clr_int, am_clr_ref, am_clr_none, am_clr_long, am_w_nil, am_w_int, am_w_ref, am_w_long, am_w_null, am_bb_0, am_bb_1, am_bb_bI, xK_sI, xR_sI, xS_sI, xN_sI, xK_sL, xR_sL, xS_sL, xN_sL, xK_sR, xR_sR, xS_sR, xN_sR, xK_sA, xR_sA, xS_sA, xN_sA, Nat.reduceAdd, Nat.reduceLeDiff, sI_sA, I_sA', sA_sA, I_sA, I_sA', nI_add, mul_nI, bI_0, bI_1, f.k, f.r0, f.r1, f.r2, f.k2, f.r4, f.k4, f.r5, f.k5, f.r6, f.k6, f.r7, f.k7, f.r9, f.k9, k.k, k.r0, k.k0, k.rl, k.r1, k.r2, k.ac.k, k.lo.k, kl.k, kl.r0, kl.k0, ix_nI, cl_nI, nz_nI, not_false_eq_true]; omega)) only [c97, e97_0, e97_1, e97_4, e97_7, e97_8, e97_9, e97_12, e97_13, e97_14, e97_17, e97_20, e97_21, e97_22, e97_25, e97_28, e97_29, e97_30, e97_33, e97_34, e97_35, e97_38, e97_39, e97_42, e97_43, e97_44, e97_45, e97_46, e97_47, e97_48, e97_51, e97_54, e97_55, e97_56, e97_59, e97_60, e97_61, e97_64, e97_65, e97_67, e97_70, e97_71, e97_72, e97_75, e97_76, e97_77, e97_80, e97_83, e97_84, e97_85, e97_88, e97_89, e97_90, e97_93, e97_94, e97_95, e97_98, e97_99, am_k_some, va_rf_some, va_rf_none, tl_some, tl_none, am_clr_int, am_clr_ref, am_clr_none, am_clr_long, am_w_nil, am_w_int, am_w_ref, am_w_long, am_w_null, am_bb_0, am_bb_1, am_bb_bI, xK_sI, xR_sI, xS_sI, xN_sI, xK_sL, xR_sL, xS_sL, xN_sL, xK_sR, xR_sR, xS_sR, xN_sR, xK_sA, xR_sA, xS_sA, xN_sA, Nat.reduceAdd, Nat.reduceLeDiff, sI_sA, I_sA', sA_sA, I_sA, I_sA', nI_add, mul_nI, bI_0, bI_1, f.k, f.r0, f.r1, f.r2, f.k2, f.r4, f.k4, f.r5, f.k5, f.r6, f.k6, f.r7, f.k7, f.r9, f.k9, k.k, k.r0, k.k0, k.rl, k.r1, k.r2, k.ac.k, k.lo.k, ix_nI, cl_nI, lt_nI, eq_nI, sub_nI, Nat.reduceEqDiff, Nat.one_ne_zero, Nat.not_lt_zero, ↓reduceIte, n10, n01, sp_131v, fd1, fd2, fd5, lc_gt, lc_lt, kl.k, kl.r0, kl.k0, th, bI_t, q0, n0, n40, hlen, h3]
  · rw [decide_eq_false ht] at th
    refine op_f (k := 1) c w W (by omega) ?_ (fun m1 w' => sp_171n (d := 37) hi w'.1 (by rw [w'.2.1]; exact ht))
    simp (disch := first | (simp (disch := omega) only [am_k_some, va_rf_some, va_rf_none, tl_some, tl_none, am_clr_int, am_clr_ref, am_clr_none, am_clr_long, am_w_nil, am_w_int, am_w_ref, am_w_long, am_w_null, am_bb_0, am_bb_1, am_bb_bI, xK_sI, xR_sI, xS_sI, xN_sI, xK_sL, xR_sL, xS_sL, xN_sL, xK_sR, xR_sR, xS_sR, xN_sR, xK_sA, xR_sA, xS_sA, xN_sA, Nat.reduceAdd, Nat.reduceLeDiff, sI_sA, I_sA', sA_sA, I_sA, I_sA', nI_add, mul_nI, bI_0, bI_1, f.k, f.r0, f.r1, f.r2, f.k2, f.r4, f.k4, f.r5, f.k5, f.r6, f.k6, f.r7, f.k7, f.r9, f.k9, k.k, k.r0, k.k0, k.rl, k.r1, k.r2, k.ac.k, k.lo.k, kl.k, kl.r0, kl.k0, ix_nI, cl_nI]; done) | omega | assumption) only [c97, e97_0, e97_1, e97_4, e97_7, e97_8, e97_9, e97_12, e97_13, e97_14, e97_17, e97_20, e97_21, e97_22, e97_25, e97_28, e97_29, e97_30, e97_33, e97_34, e97_35, e97_38, e97_39, e97_42, e97_43, e97_44, e97_45, e97_46, e97_47, e97_48, e97_51, e97_54, e97_55, e97_56, e97_59, e97_60, e97_61, e97_64, e97_65, e97_67, e97_70, e97_71, e97_72, e97_75, e97_76, e97_77, e97_80, e97_83, e97_84, e97_85, e97_88, e97_89, e97_90, e97_93, e97_94, e97_95, e97_98, e97_99, am_k_some, va_rf_some, va_rf_none, tl_some, tl_none, am_clr_int, am_clr_ref, am_clr_none, am_clr_long, am_w_nil, am_w_int, am_w_ref, am_w_long, am_w_null, am_bb_0, am_bb_1, am_bb_bI, xK_sI, xR_sI, xS_sI, xN_sI, xK_sL, xR_sL, xS_sL, xN_sL, xK_sR, xR_sR, xS_sR, xN_sR, xK_sA, xR_sA, xS_sA, xN_sA, Nat.reduceAdd, Nat.reduceLeDiff, sI_sA, I_sA', sA_sA, I_sA, I_sA', nI_add, mul_nI, bI_0, bI_1, f.k, f.r0, f.r1, f.r2, f.k2, f.r4, f.k4, f.r5, f.k5, f.r6, f.k6, f.r7, f.k7, f.r9, f.k9, k.k, k.r0, k.k0, k.rl, k.r1, k.r2, k.ac.k, k.lo.k, ix_nI, cl_nI, lt_nI, eq_nI, sub_nI, Nat.reduceEqDiff, Nat.one_ne_zero, Nat.not_lt_zero, ↓reduceIte, n10, n01, sp_131v, fd1, fd2, fd5, lc_gt, lc_lt, kl.k, kl.r0, kl.k0, th, bI_f]
