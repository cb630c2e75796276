/-! THE CALLS: of .. near, drive .. again -/
theorem op_11 {B : Nat} {m : am_M} {x y : Int32} (G : Good B m) : Op1 B 101 175 [.int x, .int y] m := by
  obtain ⟨s, c, w, W⟩ := G
  have f := c.1
  have k := f.sh
  have v := c.2.1
  have Q := W.1
  have n2 := Q.nm.2
  have ko := k.lo
  have hcn : mI m (B + 1 + 2) 9 = nI (nm (stS s)) := by rw [v.lo.1]; exact Q.nm.1
  have MN : ∀ m1, MI m1 (B + 82) s → NmOk (mI m1 (B + 82 + 1)) := fun m1 w' => by rw [w'.2.1]; exact Q.nm
  by_cases h0 : y < nI 0
  · refine op_r c w W (-1) ?_ (sp_175b (d := 37) (Or.inl h0) w.1)
    simp (disch := first | (simp (disch := omega) only [am_k_some, va_rf_some, va_rf_none, tl_some, tl_none, am_clr_int, am_clr_ref, am_clr_none, am_clr_long, am_w_nil, am_w_int, am_w_ref, am_w_long, am_w_null, am_bb_0, am_bb_1, am_bb_bI, xK_sI, xR_sI, xS_sI, xN_sI, xK_sL, xR_sL, xS_sL, xN_sL, xK_sR, xR_sR, xS_sR, xN_sR, xK_sA, xR_sA, xS_sA, xN_sA, Nat.reduceAdd, Nat.reduceLeDiff, sI_sA, I_sA', sA_sA, I_sA, I_sA', nI_add, mul_nI, bI_0, bI_1, f.k, f.r0, f.r1, f.r2, f.k2, f.r4, f.k4, f.r5, f.k5, f.r6, f.k6, f.r7, f.k7, f.r9, f.k9, k.k, k.r0, k.k0, k.rl, k.r1, k.r2, k.ac.k, k.lo.k, ix_nI, cl_nI]; done) | omega | assumption) only [c101, e101_0, e101_1, e101_2, e101_4, e101_7, e101_10, e101_11, am_k_some, va_rf_some, va_rf_none, tl_some, tl_none, am_clr_int, am_clr_ref, am_clr_none, am_clr_long, am_w_nil, am_w_int, am_w_ref, am_w_long, am_w_null, am_bb_0, am_bb_1, am_bb_bI, xK_sI, xR_sI, xS_sI, xN_sI, xK_sL, xR_sL, xS_sL, xN_sL, xK_sR, xR_sR, xS_sR, xN_sR, xK_sA, xR_sA, xS_sA, xN_sA, Nat.reduceAdd, Nat.reduceLeDiff, sI_sA, I_sA', sA_sA, I_sA, I_sA', nI_add, mul_nI, bI_0, bI_1, f.k, f.r0, f.r1, f.r2, f.k2, f.r4, f.k4, f.r5, f.k5, f.r6, f.k6, f.r7, f.k7, f.r9, f.k9, k.k, k.r0, k.k0, k.rl, k.r1, k.r2, k.ac.k, k.lo.k, ix_nI, cl_nI, lt_nI, eq_nI, sub_nI, Nat.reduceEqDiff, Nat.one_ne_zero, Nat.not_lt_zero, ↓reduceIte, sp_130, h0]
  by_cases h4 : nI 8 < y
  · refine op_r c w W (-1) ?_ (sp_175b (d := 37) (Or.inr h4) w.1)
    simp (disch := first | (simp (disch := omega) only [am_k_some, va_rf_some, va_rf_none, tl_some, tl_none, am_clr_int, am_clr_ref, am_clr_none, am_clr_long, am_w_nil, am_w_int, am_w_ref, am_w_long, am_w_null, am_bb_0, am_bb_1, am_bb_bI, xK_sI, xR_sI, xS_sI, xN_sI, xK_sL, xR_sL, xS_sL, xN_sL, xK_sR, xR_sR, xS_sR, xN_sR, xK_sA, xR_sA, xS_sA, xN_sA, Nat.reduceAdd, Nat.reduceLeDiff, sI_sA, I_sA', sA_sA, I_sA, I_sA', nI_add, mul_nI, bI_0, bI_1, f.k, f.r0, f.r1, f.r2, f.k2, f.r4, f.k4, f.r5, f.k5, f.r6, f.k6, f.r7, f.k7, f.r9, f.k9, k.k, k.r0, k.k0, k.rl, k.r1, k.r2, k.ac.k, k.lo.k, ix_nI, cl_nI]; done) | omega | assumption) only [c101, e101_0, e101_1, e101_2, e101_4, e101_7, e101_10, e101_11, am_k_some, va_rf_some, va_rf_none, tl_some, tl_none, am_clr_int, am_clr_ref, am_clr_none, am_clr_long, am_w_nil, am_w_int, am_w_ref, am_w_long, am_w_null, am_bb_0, am_bb_1, am_bb_bI, xK_sI, xR_sI, xS_sI, xN_sI, xK_sL, xR_sL, xS_sL, xN_sL, xK_sR, xR_sR, xS_sR, xN_sR, xK_sA, xR_sA, xS_sA, xN_sA, Nat.reduceAdd, Nat.reduceLeDiff, sI_sA, I_sA', sA_sA, I_sA, I_sA', nI_add, mul_nI, bI_0, bI_1, f.k, f.r0, f.r1, f.r2, f.k2, f.r4, f.k4, f.r5, f.k5, f.r6, f.k6, f.r7, f.k7, f.r9, f.k9, k.k, k.r0, k.k0, k.rl, k.r1, k.r2, k.ac.k, k.lo.k, ix_nI, cl_nI, lt_nI, eq_nI, sub_nI, Nat.reduceEqDiff, Nat.one_ne_zero, Nat.not_lt_zero, ↓reduceIte, sp_130, h0, h4]
  obtain ⟨q, hq, rfl⟩ := rngU y 8 (by omega) h0 h4
  have q0 : ¬ q < 0 := by omega
  have q4 : ¬ 8 < q := by omega
  rcases rng x (nm (stS s)) (by omega) with hb | ⟨l, hl, rfl⟩
  · refine op_f (k := 2) c w W (by omega) ?_ (fun m1 w' => sp_175c (d := 37) hq (by rw [w'.2.1]; exact hb) w'.1 (MN m1 w'))
    have fd := sp_128 (d := 38) (k := 2) f (by omega)
    have hs := sp_26b (d := 38) ko hcn hb
    simp (disch := first | (simp (disch := omega) only [am_k_some, va_rf_some, va_rf_none, tl_some, tl_none, am_clr_int, am_clr_ref, am_clr_none, am_clr_long, am_w_nil, am_w_int, am_w_ref, am_w_long, am_w_null, am_bb_0, am_bb_1, am_bb_bI, xK_sI, xR_sI, xS_sI, xN_sI, xK_sL, xR_sL, xS_sL, xN_sL, xK_sR, xR_sR, xS_sR, xN_sR, xK_sA, xR_sA, xS_sA, xN_sA, Nat.reduceAdd, Nat.reduceLeDiff, sI_sA, I_sA', sA_sA, I_sA, I_sA', nI_add, mul_nI, bI_0, bI_1, f.k, f.r0, f.r1, f.r2, f.k2, f.r4, f.k4, f.r5, f.k5, f.r6, f.k6, f.r7, f.k7, f.r9, f.k9, k.k, k.r0, k.k0, k.rl, k.r1, k.r2, k.ac.k, k.lo.k, ix_nI, cl_nI]; done) | omega | assumption) only [c101, e101_0, e101_1, e101_2, e101_4, e101_7, e101_12, e101_13, e101_16, e101_19, e101_20, e101_21, e101_22, e101_25, e101_28, e101_29, e101_30, e101_33, am_k_some, va_rf_some, va_rf_none, tl_some, tl_none, am_clr_int, am_clr_ref, am_clr_none, am_clr_long, am_w_nil, am_w_int, am_w_ref, am_w_long, am_w_null, am_bb_0, am_bb_1, am_bb_bI, xK_sI, xR_sI, xS_sI, xN_sI, xK_sL, xR_sL, xS_sL, xN_sL, xK_sR, xR_sR, xS_sR, xN_sR, xK_sA, xR_sA, xS_sA, xN_sA, Nat.reduceAdd, Nat.reduceLeDiff, sI_sA, I_sA', sA_sA, I_sA, I_sA', nI_add, mul_nI, bI_0, bI_1, f.k, f.r0, f.r1, f.r2, f.k2, f.r4, f.k4, f.r5, f.k5, f.r6, f.k6, f.r7, f.k7, f.r9, f.k9, k.k, k.r0, k.k0, k.rl, k.r1, k.r2, k.ac.k, k.lo.k, ix_nI, cl_nI, lt_nI, eq_nI, sub_nI, Nat.reduceEqDiff, Nat.one_ne_zero, Nat.not_lt_zero, ↓reduceIte, n10, sp_130, q0, q4, hs, fd]
  have hs := sp_26v (d := 38) ko hcn n2 hl
  obtain ⟨a1, a2, a3, a4, a5, a6, a7, a8, a9⟩ := v.lo.2 l hl
  have M := sp_175 (d := 37) w.1 (MN m w) (show l < nm (mI m (B + 82 + 1)) by rw [w.2.1]; exact hl) hq
  rw [w.2.1] at M
  refine op_r c w W _ ?_ M
  have s1 : ∀ d', cal d' 134 [.int (stS s (900 + l))] (m : am_M) = some (some (.int (nI (spanS (stS s) l))), m) := fun d' => sp_134
  have e8 : (nI 8).toInt < 0 ∨ 7 < (nI 8).toInt := Or.inr (by decide)
  have z8 : ¬ (8 : Nat) < 8 := by omega
  have hc : q = 0 ∨ q = 1 ∨ q = 2 ∨ q = 3 ∨ q = 4 ∨ q = 5 ∨ q = 6 ∨ q = 7 ∨ q = 8 := by omega
  rcases hc with rfl | rfl | rfl | rfl | rfl | rfl | rfl | rfl | rfl <;>
    simp (disch := first | (simp (disch := omega) only [am_k_some, va_rf_some, va_rf_none, tl_some, tl_none, am_clr_int, am_clr_ref, am_clr_none, am_clr_long, am_w_nil, am_w_int, am_w_ref, am_w_long, am_w_null, am_bb_0, am_bb_1, am_bb_bI, xK_sI, xR_sI, xS_sI, xN_sI, xK_sL, xR_sL, xS_sL, xN_sL, xK_sR, xR_sR, xS_sR, xN_sR, xK_sA, xR_sA, xS_sA, xN_sA, Nat.reduceAdd, Nat.reduceLeDiff, sI_sA, I_sA', sA_sA, I_sA, I_sA', nI_add, mul_nI, bI_0, bI_1, f.k, f.r0, f.r1, f.r2, f.k2, f.r4, f.k4, f.r5, f.k5, f.r6, f.k6, f.r7, f.k7, f.r9, f.k9, k.k, k.r0, k.k0, k.rl, k.r1, k.r2, k.ac.k, k.lo.k, ko.k, ko.r0, ko.k0, ko.r1, ko.k1, ko.r2, ko.k2, ko.r3, ko.k3, ko.r4, ko.k4, ko.r5, ko.k5, ko.r6, ko.k6, ko.r7, ko.k7, ko.r8, ko.k8, ix_nI, cl_nI]; done) | omega | assumption) only [c101, e101_0, e101_1, e101_2, e101_4, e101_7, e101_10, e101_11, e101_12, e101_13, e101_16, e101_19, e101_20, e101_21, e101_22, e101_25, e101_28, e101_29, e101_30, e101_33, e101_34, e101_35_0, e101_35_1, e101_35_2, e101_35_3, e101_35_4, e101_35_5, e101_35_6, e101_35_7, e101_80, e101_81, e101_84, e101_85, e101_86, e101_87, e101_88, e101_91, e101_92, e101_93, e101_96, e101_97, e101_98, e101_101, e101_102, e101_103, e101_104, e101_105, e101_108, e101_109, e101_110, e101_111, e101_112, e101_115, e101_116, e101_117, e101_118, e101_119, e101_122, e101_123, e101_124, e101_125, e101_126, e101_129, e101_130, e101_131, e101_132, e101_133, e101_136, e101_137, e101_138, e101_139, e101_140, e101_143, e101_144, e101_145, am_k_some, va_rf_some, va_rf_none, tl_some, tl_none, am_clr_int, am_clr_ref, am_clr_none, am_clr_long, am_w_nil, am_w_int, am_w_ref, am_w_long, am_w_null, am_bb_0, am_bb_1, am_bb_bI, xK_sI, xR_sI, xS_sI, xN_sI, xK_sL, xR_sL, xS_sL, xN_sL, xK_sR, xR_sR, xS_sR, xN_sR, xK_sA, xR_sA, xS_sA, xN_sA, Nat.reduceAdd, Nat.reduceLeDiff, sI_sA, I_sA', sA_sA, I_sA, I_sA', nI_add, mul_nI, bI_0, bI_1, f.k, f.r0, f.r1, f.r2, f.k2, f.r4, f.k4, f.r5, f.k5, f.r6, f.k6, f.r7, f.k7, f.r9, f.k9, k.k, k.r0, k.k0, k.rl, k.r1, k.r2, k.ac.k, k.lo.k, ko.k, ko.r0, ko.k0, ko.r1, ko.k1, ko.r2, ko.k2, ko.r3, ko.k3, ko.r4, ko.k4, ko.r5, ko.k5, ko.r6, ko.k6, ko.r7, ko.k7, ko.r8, ko.k8, ix_nI, cl_nI, lt_nI, eq_nI, sub_nI, Nat.reduceEqDiff, Nat.one_ne_zero, Nat.not_lt_zero, ↓reduceIte, n10, sp_130, q0, q4, z8, hs, a1, a2, a3, a4, a6, a7, a8, a9, s1, e101_35_x e8, ofA]
theorem op_12 {B : Nat} {m : am_M} {x : Int32} (G : Good B m) : Op1 B 102 176 [.int x] m := by
  obtain ⟨s, c, w, W⟩ := G
  have f := c.1
  have k := f.sh
  have v := c.2.1
  have Q := W.1
  have n2 := Q.nm.2
  have ko := k.lo
  have hcn : mI m (B + 1 + 2) 9 = nI (nm (stS s)) := by rw [v.lo.1]; exact Q.nm.1
  have MN : ∀ m1, MI m1 (B + 82) s → NmOk (mI m1 (B + 82 + 1)) := fun m1 w' => by rw [w'.2.1]; exact Q.nm
  have fd2 := sp_128 (d := 38) (k := 2) f (by omega)
  have fd4 := sp_128 (d := 38) (k := 4) f (by omega)
  rcases rng x (nm (stS s)) (by omega) with hb | ⟨l, hl, rfl⟩
  · refine op_f (k := 2) c w W (by omega) ?_ (fun m1 w' => sp_176b (d := 38) (by rw [w'.2.1]; exact hb) w'.1 (MN m1 w'))
    have hs := sp_26b (d := 38) ko hcn hb
    simp (disch := first | (simp (disch := omega) only [am_k_some, va_rf_some, va_rf_none, tl_some, tl_none, am_clr_int, am_clr_ref, am_clr_none, am_clr_long, am_w_nil, am_w_int, am_w_ref, am_w_long, am_w_null, am_bb_0, am_bb_1, am_bb_bI, xK_sI, xR_sI, xS_sI, xN_sI, xK_sL, xR_sL, xS_sL, xN_sL, xK_sR, xR_sR, xS_sR, xN_sR, xK_sA, xR_sA, xS_sA, xN_sA, Nat.reduceAdd, Nat.reduceLeDiff, sI_sA, I_sA', sA_sA, I_sA, I_sA', nI_add, mul_nI, bI_0, bI_1, f.k, f.r0, f.r1, f.r2, f.k2, f.r4, f.k4, f.r5, f.k5, f.r6, f.k6, f.r7, f.k7, f.r9, f.k9, k.k, k.r0, k.k0, k.rl, k.r1, k.r2, k.ac.k, k.lo.k, ko.k, ko.r0, ko.k0, ko.r1, ko.k1, ko.r2, ko.k2, ko.r3, ko.k3, ko.r4, ko.k4, ko.r5, ko.k5, ko.r6, ko.k6, ko.r7, ko.k7, ko.r8, ko.k8, ix_nI, cl_nI]; done) | omega | assumption) only [c102, e102_0, e102_1, e102_4, e102_7, e102_8, e102_11, e102_14, e102_15, e102_16, e102_19, e102_20, e102_21, e102_24, e102_27, e102_30, e102_31, e102_32, e102_33, e102_34, e102_35, e102_38, e102_39, e102_40, e102_43, e102_44, e102_45, e102_48, e102_49, e102_50, e102_53, am_k_some, va_rf_some, va_rf_none, tl_some, tl_none, am_clr_int, am_clr_ref, am_clr_none, am_clr_long, am_w_nil, am_w_int, am_w_ref, am_w_long, am_w_null, am_bb_0, am_bb_1, am_bb_bI, xK_sI, xR_sI, xS_sI, xN_sI, xK_sL, xR_sL, xS_sL, xN_sL, xK_sR, xR_sR, xS_sR, xN_sR, xK_sA, xR_sA, xS_sA, xN_sA, Nat.reduceAdd, Nat.reduceLeDiff, sI_sA, I_sA', sA_sA, I_sA, I_sA', nI_add, mul_nI, bI_0, bI_1, f.k, f.r0, f.r1, f.r2, f.k2, f.r4, f.k4, f.r5, f.k5, f.r6, f.k6, f.r7, f.k7, f.r9, f.k9, k.k, k.r0, k.k0, k.rl, k.r1, k.r2, k.ac.k, k.lo.k, ko.k, ko.r0, ko.k0, ko.r1, ko.k1, ko.r2, ko.k2, ko.r3, ko.k3, ko.r4, ko.k4, ko.r5, ko.k5, ko.r6, ko.k6, ko.r7, ko.k7, ko.r8, ko.k8, ix_nI, cl_nI, lt_nI, eq_nI, sub_nI, Nat.reduceEqDiff, Nat.one_ne_zero, Nat.not_lt_zero, ↓reduceIte, hs, fd2]
  have hs := sp_26v (d := 38) ko hcn n2 hl
  have a1 := (v.lo.2 l hl).1
  have MM : ∀ m1, MI m1 (B + 82) s → cal 39 176 [.ref (B + 82), .int (nI l)] m1 = some (if moreS (stS s) l = 0 then (some (.int (-17)), sA m1 (B + 82 + 9) (fdS (mI m1 (B + 82 + 9)) 4)) else (some (.int (nI (moreS (stS s) l))), m1)) := fun m1 w' => by
    have M := sp_176 (d := 38) w'.1 (MN m1 w') (show l < nm (mI m1 (B + 82 + 1)) by rw [w'.2.1]; exact hl)
    rw [w'.2.1] at M
    exact M
  unfold moreS at MM
  by_cases c2 : stS s (900 + l) = nI 2
  · have M := MM m w
    rw [if_pos c2, if_neg (by omega)] at M
    refine op_r c w W _ ?_ M
    simp (disch := first | (simp (disch := omega) only [am_k_some, va_rf_some, va_rf_none, tl_some, tl_none, am_clr_int, am_clr_ref, am_clr_none, am_clr_long, am_w_nil, am_w_int, am_w_ref, am_w_long, am_w_null, am_bb_0, am_bb_1, am_bb_bI, xK_sI, xR_sI, xS_sI, xN_sI, xK_sL, xR_sL, xS_sL, xN_sL, xK_sR, xR_sR, xS_sR, xN_sR, xK_sA, xR_sA, xS_sA, xN_sA, Nat.reduceAdd, Nat.reduceLeDiff, sI_sA, I_sA', sA_sA, I_sA, I_sA', nI_add, mul_nI, bI_0, bI_1, f.k, f.r0, f.r1, f.r2, f.k2, f.r4, f.k4, f.r5, f.k5, f.r6, f.k6, f.r7, f.k7, f.r9, f.k9, k.k, k.r0, k.k0, k.rl, k.r1, k.r2, k.ac.k, k.lo.k, ko.k, ko.r0, ko.k0, ko.r1, ko.k1, ko.r2, ko.k2, ko.r3, ko.k3, ko.r4, ko.k4, ko.r5, ko.k5, ko.r6, ko.k6, ko.r7, ko.k7, ko.r8, ko.k8, ix_nI, cl_nI]; done) | omega | assumption) only [c102, e102_0, e102_1, e102_4, e102_7, e102_8, e102_11, e102_14, e102_15, e102_16, e102_19, e102_20, e102_21, e102_24, e102_27, e102_30, e102_31, e102_32, e102_33, e102_34, e102_35, e102_38, e102_39, e102_40, e102_43, e102_44, e102_45, e102_48, e102_49, e102_50, e102_53, am_k_some, va_rf_some, va_rf_none, tl_some, tl_none, am_clr_int, am_clr_ref, am_clr_none, am_clr_long, am_w_nil, am_w_int, am_w_ref, am_w_long, am_w_null, am_bb_0, am_bb_1, am_bb_bI, xK_sI, xR_sI, xS_sI, xN_sI, xK_sL, xR_sL, xS_sL, xN_sL, xK_sR, xR_sR, xS_sR, xN_sR, xK_sA, xR_sA, xS_sA, xN_sA, Nat.reduceAdd, Nat.reduceLeDiff, sI_sA, I_sA', sA_sA, I_sA, I_sA', nI_add, mul_nI, bI_0, bI_1, f.k, f.r0, f.r1, f.r2, f.k2, f.r4, f.k4, f.r5, f.k5, f.r6, f.k6, f.r7, f.k7, f.r9, f.k9, k.k, k.r0, k.k0, k.rl, k.r1, k.r2, k.ac.k, k.lo.k, ko.k, ko.r0, ko.k0, ko.r1, ko.k1, ko.r2, ko.k2, ko.r3, ko.k3, ko.r4, ko.k4, ko.r5, ko.k5, ko.r6, ko.k6, ko.r7, ko.k7, ko.r8, ko.k8, ix_nI, cl_nI, lt_nI, eq_nI, sub_nI, Nat.reduceEqDiff, Nat.one_ne_zero, Nat.not_lt_zero, ↓reduceIte, n10, hs, a1, c2, sp_135]
  by_cases c3 : stS s (900 + l) = nI 3
  · have M := MM m w
    rw [if_neg c2, if_pos c3, if_neg (by omega)] at M
    refine op_r c w W _ ?_ M
    have n32 : ¬ nI 3 = nI 2 := by decide
    simp (disch := first | (simp (disch := omega) only [am_k_some, va_rf_some, va_rf_none, tl_some, tl_none, am_clr_int, am_clr_ref, am_clr_none, am_clr_long, am_w_nil, am_w_int, am_w_ref, am_w_long, am_w_null, am_bb_0, am_bb_1, am_bb_bI, xK_sI, xR_sI, xS_sI, xN_sI, xK_sL, xR_sL, xS_sL, xN_sL, xK_sR, xR_sR, xS_sR, xN_sR, xK_sA, xR_sA, xS_sA, xN_sA, Nat.reduceAdd, Nat.reduceLeDiff, sI_sA, I_sA', sA_sA, I_sA, I_sA', nI_add, mul_nI, bI_0, bI_1, f.k, f.r0, f.r1, f.r2, f.k2, f.r4, f.k4, f.r5, f.k5, f.r6, f.k6, f.r7, f.k7, f.r9, f.k9, k.k, k.r0, k.k0, k.rl, k.r1, k.r2, k.ac.k, k.lo.k, ko.k, ko.r0, ko.k0, ko.r1, ko.k1, ko.r2, ko.k2, ko.r3, ko.k3, ko.r4, ko.k4, ko.r5, ko.k5, ko.r6, ko.k6, ko.r7, ko.k7, ko.r8, ko.k8, ix_nI, cl_nI]; done) | omega | assumption) only [c102, e102_0, e102_1, e102_4, e102_7, e102_8, e102_11, e102_14, e102_15, e102_16, e102_19, e102_20, e102_21, e102_24, e102_27, e102_30, e102_31, e102_32, e102_33, e102_34, e102_35, e102_38, e102_39, e102_40, e102_43, e102_44, e102_45, e102_48, e102_49, e102_50, e102_53, am_k_some, va_rf_some, va_rf_none, tl_some, tl_none, am_clr_int, am_clr_ref, am_clr_none, am_clr_long, am_w_nil, am_w_int, am_w_ref, am_w_long, am_w_null, am_bb_0, am_bb_1, am_bb_bI, xK_sI, xR_sI, xS_sI, xN_sI, xK_sL, xR_sL, xS_sL, xN_sL, xK_sR, xR_sR, xS_sR, xN_sR, xK_sA, xR_sA, xS_sA, xN_sA, Nat.reduceAdd, Nat.reduceLeDiff, sI_sA, I_sA', sA_sA, I_sA, I_sA', nI_add, mul_nI, bI_0, bI_1, f.k, f.r0, f.r1, f.r2, f.k2, f.r4, f.k4, f.r5, f.k5, f.r6, f.k6, f.r7, f.k7, f.r9, f.k9, k.k, k.r0, k.k0, k.rl, k.r1, k.r2, k.ac.k, k.lo.k, ko.k, ko.r0, ko.k0, ko.r1, ko.k1, ko.r2, ko.k2, ko.r3, ko.k3, ko.r4, ko.k4, ko.r5, ko.k5, ko.r6, ko.k6, ko.r7, ko.k7, ko.r8, ko.k8, ix_nI, cl_nI, lt_nI, eq_nI, sub_nI, Nat.reduceEqDiff, Nat.one_ne_zero, Nat.not_lt_zero, ↓reduceIte, n10, hs, a1, c3, n32, sp_135]
  · refine op_f (k := 4) c w W (by omega) ?_ (fun m1 w' => by have M := MM m1 w'; rw [if_neg c2, if_neg c3, if_pos rfl] at M; exact M)
    simp (disch := first | (simp (disch := omega) only [am_k_some, va_rf_some, va_rf_none, tl_some, tl_none, am_clr_int, am_clr_ref, am_clr_none, am_clr_long, am_w_nil, am_w_int, am_w_ref, am_w_long, am_w_null, am_bb_0, am_bb_1, am_bb_bI, xK_sI, xR_sI, xS_sI, xN_sI, xK_sL, xR_sL, xS_sL, xN_sL, xK_sR, xR_sR, xS_sR, xN_sR, xK_sA, xR_sA, xS_sA, xN_sA, Nat.reduceAdd, Nat.reduceLeDiff, sI_sA, I_sA', sA_sA, I_sA, I_sA', nI_add, mul_nI, bI_0, bI_1, f.k, f.r0, f.r1, f.r2, f.k2, f.r4, f.k4, f.r5, f.k5, f.r6, f.k6, f.r7, f.k7, f.r9, f.k9, k.k, k.r0, k.k0, k.rl, k.r1, k.r2, k.ac.k, k.lo.k, ko.k, ko.r0, ko.k0, ko.r1, ko.k1, ko.r2, ko.k2, ko.r3, ko.k3, ko.r4, ko.k4, ko.r5, ko.k5, ko.r6, ko.k6, ko.r7, ko.k7, ko.r8, ko.k8, ix_nI, cl_nI]; done) | omega | assumption) only [c102, e102_0, e102_1, e102_4, e102_7, e102_8, e102_11, e102_14, e102_15, e102_16, e102_19, e102_20, e102_21, e102_24, e102_27, e102_30, e102_31, e102_32, e102_33, e102_34, e102_35, e102_38, e102_39, e102_40, e102_43, e102_44, e102_45, e102_48, e102_49, e102_50, e102_53, am_k_some, va_rf_some, va_rf_none, tl_some, tl_none, am_clr_int, am_clr_ref, am_clr_none, am_clr_long, am_w_nil, am_w_int, am_w_ref, am_w_long, am_w_null, am_bb_0, am_bb_1, am_bb_bI, xK_sI, xR_sI, xS_sI, xN_sI, xK_sL, xR_sL, xS_sL, xN_sL, xK_sR, xR_sR, xS_sR, xN_sR, xK_sA, xR_sA, xS_sA, xN_sA, Nat.reduceAdd, Nat.reduceLeDiff, sI_sA, I_sA', sA_sA, I_sA, I_sA', nI_add, mul_nI, bI_0, bI_1, f.k, f.r0, f.r1, f.r2, f.k2, f.r4, f.k4, f.r5, f.k5, f.r6, f.k6, f.r7, f.k7, f.r9, f.k9, k.k, k.r0, k.k0, k.rl, k.r1, k.r2, k.ac.k, k.lo.k, ko.k, ko.r0, ko.k0, ko.r1, ko.k1, ko.r2, ko.k2, ko.r3, ko.k3, ko.r4, ko.k4, ko.r5, ko.k5, ko.r6, ko.k6, ko.r7, ko.k7, ko.r8, ko.k8, ix_nI, cl_nI, lt_nI, eq_nI, sub_nI, Nat.reduceEqDiff, Nat.one_ne_zero, Nat.not_lt_zero, ↓reduceIte, n10, hs, a1, c2, c3, fd4]
theorem op_13 {B : Nat} {m : am_M} {x : Int32} (G : Good B m) : Op1 B 103 177 [.int x] m := by
  obtain ⟨s, c, w, W⟩ := G
  have f := c.1
  have k := f.sh
  have v := c.2.1
  have Q := W.1
  have n2 := Q.nm.2
  have ko := k.lo
  have hcn : mI m (B + 1 + 2) 9 = nI (nm (stS s)) := by rw [v.lo.1]; exact Q.nm.1
  have MN : ∀ m1, MI m1 (B + 82) s → NmOk (mI m1 (B + 82 + 1)) := fun m1 w' => by rw [w'.2.1]; exact Q.nm
  have fd2 := sp_128 (d := 38) (k := 2) f (by omega)
  have fd4 := sp_128 (d := 38) (k := 4) f (by omega)
  rcases rng x (nm (stS s)) (by omega) with hb | ⟨l, hl, rfl⟩
  · refine op_f (k := 2) c w W (by omega) ?_ (fun m1 w' => sp_177b (d := 37) (by rw [w'.2.1]; exact hb) w'.1 (MN m1 w'))
    have hs := sp_26b (d := 38) ko hcn hb
    simp (disch := first | (simp (disch := omega) only [am_k_some, va_rf_some, va_rf_none, tl_some, tl_none, am_clr_int, am_clr_ref, am_clr_none, am_clr_long, am_w_nil, am_w_int, am_w_ref, am_w_long, am_w_null, am_bb_0, am_bb_1, am_bb_bI, xK_sI, xR_sI, xS_sI, xN_sI, xK_sL, xR_sL, xS_sL, xN_sL, xK_sR, xR_sR, xS_sR, xN_sR, xK_sA, xR_sA, xS_sA, xN_sA, Nat.reduceAdd, Nat.reduceLeDiff, sI_sA, I_sA', sA_sA, I_sA, I_sA', nI_add, mul_nI, bI_0, bI_1, f.k, f.r0, f.r1, f.r2, f.k2, f.r4, f.k4, f.r5, f.k5, f.r6, f.k6, f.r7, f.k7, f.r9, f.k9, k.k, k.r0, k.k0, k.rl, k.r1, k.r2, k.ac.k, k.lo.k, ko.k, ko.r0, ko.k0, ko.r1, ko.k1, ko.r2, ko.k2, ko.r3, ko.k3, ko.r4, ko.k4, ko.r5, ko.k5, ko.r6, ko.k6, ko.r7, ko.k7, ko.r8, ko.k8, ix_nI, cl_nI]; done) | omega | assumption) only [c103, e103_0, e103_1, e103_4, e103_7, e103_8, e103_11, e103_14, e103_15, e103_16, e103_19, e103_20, e103_21, e103_24, e103_27, e103_30, e103_31, e103_32, e103_35, e103_38, e103_39, e103_40, e103_43, e103_44, e103_45, e103_48, e103_51, e103_54, e103_55, e103_56, am_k_some, va_rf_some, va_rf_none, tl_some, tl_none, am_clr_int, am_clr_ref, am_clr_none, am_clr_long, am_w_nil, am_w_int, am_w_ref, am_w_long, am_w_null, am_bb_0, am_bb_1, am_bb_bI, xK_sI, xR_sI, xS_sI, xN_sI, xK_sL, xR_sL, xS_sL, xN_sL, xK_sR, xR_sR, xS_sR, xN_sR, xK_sA, xR_sA, xS_sA, xN_sA, Nat.reduceAdd, Nat.reduceLeDiff, sI_sA, I_sA', sA_sA, I_sA, I_sA', nI_add, mul_nI, bI_0, bI_1, f.k, f.r0, f.r1, f.r2, f.k2, f.r4, f.k4, f.r5, f.k5, f.r6, f.k6, f.r7, f.k7, f.r9, f.k9, k.k, k.r0, k.k0, k.rl, k.r1, k.r2, k.ac.k, k.lo.k, ko.k, ko.r0, ko.k0, ko.r1, ko.k1, ko.r2, ko.k2, ko.r3, ko.k3, ko.r4, ko.k4, ko.r5, ko.k5, ko.r6, ko.k6, ko.r7, ko.k7, ko.r8, ko.k8, ix_nI, cl_nI, lt_nI, eq_nI, sub_nI, Nat.reduceEqDiff, Nat.one_ne_zero, Nat.not_lt_zero, ↓reduceIte, hs, fd2]
  have hs := sp_26v (d := 38) ko hcn n2 hl
  obtain ⟨a1, a2, a3, a4, a5, -⟩ := v.lo.2 l hl
  have dk : ∀ d', cal d' 133 [.int (stS s (900 + l))] (m : am_M) = some (some (.int (bI (decide (nI 3 < stS s (900 + l))))), m) := fun d' => by rw [sp_133, dk_eq Q.d hl]
  have MM : ∀ m1, MI m1 (B + 82) s → cal 39 177 [.ref (B + 82), .int (nI l)] m1 = some (if nI 3 < stS s (900 + l) then (some (.int (stS s (2500 + l))), m1) else (some (.int (-17)), sA m1 (B + 82 + 9) (fdS (mI m1 (B + 82 + 9)) 4))) := fun m1 w' => by
    have M := sp_177 (d := 37) w'.1 (MN m1 w') (show l < nm (mI m1 (B + 82 + 1)) by rw [w'.2.1]; exact hl)
    rw [w'.2.1] at M
    exact M
  by_cases h3 : nI 3 < stS s (900 + l)
  · have M := MM m w
    rw [if_pos h3] at M
    rw [decide_eq_true h3] at dk
    refine op_r c w W _ ?_ M
    simp (disch := first | (simp (disch := omega) only [am_k_some, va_rf_some, va_rf_none, tl_some, tl_none, am_clr_int, am_clr_ref, am_clr_none, am_clr_long, am_w_nil, am_w_int, am_w_ref, am_w_long, am_w_null, am_bb_0, am_bb_1, am_bb_bI, xK_sI, xR_sI, xS_sI, xN_sI, xK_sL, xR_sL, xS_sL, xN_sL, xK_sR, xR_sR, xS_sR, xN_sR, xK_sA, xR_sA, xS_sA, xN_sA, Nat.reduceAdd, Nat.reduceLeDiff, sI_sA, I_sA', sA_sA, I_sA, I_sA', nI_add, mul_nI, bI_0, bI_1, f.k, f.r0, f.r1, f.r2, f.k2, f.r4, f.k4, f.r5, f.k5, f.r6, f.k6, f.r7, f.k7, f.r9, f.k9, k.k, k.r0, k.k0, k.rl, k.r1, k.r2, k.ac.k, k.lo.k, ko.k, ko.r0, ko.k0, ko.r1, ko.k1, ko.r2, ko.k2, ko.r3, ko.k3, ko.r4, ko.k4, ko.r5, ko.k5, ko.r6, ko.k6, ko.r7, ko.k7, ko.r8, ko.k8, ix_nI, cl_nI]; done) | omega | assumption) only [c103, e103_0, e103_1, e103_4, e103_7, e103_8, e103_11, e103_14, e103_15, e103_16, e103_19, e103_20, e103_21, e103_24, e103_27, e103_30, e103_31, e103_32, e103_35, e103_38, e103_39, e103_40, e103_43, e103_44, e103_45, e103_48, e103_51, e103_54, e103_55, e103_56, am_k_some, va_rf_some, va_rf_none, tl_some, tl_none, am_clr_int, am_clr_ref, am_clr_none, am_clr_long, am_w_nil, am_w_int, am_w_ref, am_w_long, am_w_null, am_bb_0, am_bb_1, am_bb_bI, xK_sI, xR_sI, xS_sI, xN_sI, xK_sL, xR_sL, xS_sL, xN_sL, xK_sR, xR_sR, xS_sR, xN_sR, xK_sA, xR_sA, xS_sA, xN_sA, Nat.reduceAdd, Nat.reduceLeDiff, sI_sA, I_sA', sA_sA, I_sA, I_sA', nI_add, mul_nI, bI_0, bI_1, f.k, f.r0, f.r1, f.r2, f.k2, f.r4, f.k4, f.r5, f.k5, f.r6, f.k6, f.r7, f.k7, f.r9, f.k9, k.k, k.r0, k.k0, k.rl, k.r1, k.r2, k.ac.k, k.lo.k, ko.k, ko.r0, ko.k0, ko.r1, ko.k1, ko.r2, ko.k2, ko.r3, ko.k3, ko.r4, ko.k4, ko.r5, ko.k5, ko.r6, ko.k6, ko.r7, ko.k7, ko.r8, ko.k8, ix_nI, cl_nI, lt_nI, eq_nI, sub_nI, Nat.reduceEqDiff, Nat.one_ne_zero, Nat.not_lt_zero, ↓reduceIte, n10, hs, a1, dk, bI_t, a5]
  · rw [decide_eq_false h3] at dk
    refine op_f (k := 4) c w W (by omega) ?_ (fun m1 w' => by have M := MM m1 w'; rw [if_neg h3] at M; exact M)
    simp (disch := first | (simp (disch := omega) only [am_k_some, va_rf_some, va_rf_none, tl_some, tl_none, am_clr_int, am_clr_ref, am_clr_none, am_clr_long, am_w_nil, am_w_int, am_w_ref, am_w_long, am_w_null, am_bb_0, am_bb_1, am_bb_bI, xK_sI, xR_sI, xS_sI, xN_sI, xK_sL, xR_sL, xS_sL, xN_sL, xK_sR, xR_sR, xS_sR, xN_sR, xK_sA, xR_sA, xS_sA, xN_sA, Nat.reduceAdd, Nat.reduceLeDiff, sI_sA, I_sA', sA_sA, I_sA, I_sA', nI_add, mul_nI, bI_0, bI_1, f.k, f.r0, f.r1, f.r2, f.k2, f.r4, f.k4, f.r5, f.k5, f.r6, f.k6, f.r7, f.k7, f.r9, f.k9, k.k, k.r0, k.k0, k.rl, k.r1, k.r2, k.ac.k, k.lo.k, ko.k, ko.r0, ko.k0, ko.r1, ko.k1, ko.r2, ko.k2, ko.r3, ko.k3, ko.r4, ko.k4, ko.r5, ko.k5, ko.r6, ko.k6, ko.r7, ko.k7, ko.r8, ko.k8, ix_nI, cl_nI]; done) | omega | assumption) only [c103, e103_0, e103_1, e103_4, e103_7, e103_8, e103_11, e103_14, e103_15, e103_16, e103_19, e103_20, e103_21, e103_24, e103_27, e103_30, e103_31, e103_32, e103_35, e103_38, e103_39, e103_40, e103_43, e103_44, e103_45, e103_48, e103_51, e103_54, e103_55, e103_56, am_k_some, va_rf_some, va_rf_none, tl_some, tl_none, am_clr_int, am_clr_ref, am_clr_none, am_clr_long, am_w_nil, am_w_int, am_w_ref, am_w_long, am_w_null, am_bb_0, am_bb_1, am_bb_bI, xK_sI, xR_sI, xS_sI, xN_sI, xK_sL, xR_sL, xS_sL, xN_sL, xK_sR, xR_sR, xS_sR, xN_sR, xK_sA, xR_sA, xS_sA, xN_sA, Nat.reduceAdd, Nat.reduceLeDiff, sI_sA, I_sA', sA_sA, I_sA, I_sA', nI_add, mul_nI, bI_0, bI_1, f.k, f.r0, f.r1, f.r2, f.k2, f.r4, f.k4, f.r5, f.k5, f.r6, f.k6, f.r7, f.k7, f.r9, f.k9, k.k, k.r0, k.k0, k.rl, k.r1, k.r2, k.ac.k, k.lo.k, ko.k, ko.r0, ko.k0, ko.r1, ko.k1, ko.r2, ko.k2, ko.r3, ko.k3, ko.r4, ko.k4, ko.r5, ko.k5, ko.r6, ko.k6, ko.r7, ko.k7, ko.r8, ko.k8, ix_nI, cl_nI, lt_nI, eq_nI, sub_nI, Nat.reduceEqDiff, Nat.one_ne_zero, Nat.not_lt_zero, ↓reduceIte, n10, hs, a1, dk, bI_f, fd4]
theorem op_14 {B : Nat} {m : am_M} (G : Good B m) : Op1 B 104 178 [] m := by
  obtain ⟨s, c, w, W⟩ := G
  have f := c.1
  have k := f.sh
  have v := c.2.1
  have M := sp_178 (d := 39) w.1
  rw [w.2.1] at M
  refine op_r c w W _ ?_ M
  have h := v.lo.1
  simp (disch := first | (simp (disch := omega) only [am_k_some, va_rf_some, va_rf_none, tl_some, tl_none, am_clr_int, am_clr_ref, am_clr_none, am_clr_long, am_w_nil, am_w_int, am_w_ref, am_w_long, am_w_null, am_bb_0, am_bb_1, am_bb_bI, xK_sI, xR_sI, xS_sI, xN_sI, xK_sL, xR_sL, xS_sL, xN_sL, xK_sR, xR_sR, xS_sR, xN_sR, xK_sA, xR_sA, xS_sA, xN_sA, Nat.reduceAdd, Nat.reduceLeDiff, sI_sA, I_sA', sA_sA, I_sA, I_sA', nI_add, mul_nI, bI_0, bI_1, f.k, f.r0, f.r1, f.r2, f.k2, f.r4, f.k4, f.r5, f.k5, f.r6, f.k6, f.r7, f.k7, f.r9, f.k9, k.k, k.r0, k.k0, k.rl, k.r1, k.r2, k.ac.k, k.lo.k, ix_nI, cl_nI]; done) | omega | assumption) only [c104, e104_0, e104_1, e104_4, e104_7, e104_10, am_k_some, va_rf_some, va_rf_none, tl_some, tl_none, am_clr_int, am_clr_ref, am_clr_none, am_clr_long, am_w_nil, am_w_int, am_w_ref, am_w_long, am_w_null, am_bb_0, am_bb_1, am_bb_bI, xK_sI, xR_sI, xS_sI, xN_sI, xK_sL, xR_sL, xS_sL, xN_sL, xK_sR, xR_sR, xS_sR, xN_sR, xK_sA, xR_sA, xS_sA, xN_sA, Nat.reduceAdd, Nat.reduceLeDiff, sI_sA, I_sA', sA_sA, I_sA, I_sA', nI_add, mul_nI, bI_0, bI_1, f.k, f.r0, f.r1, f.r2, f.k2, f.r4, f.k4, f.r5, f.k5, f.r6, f.k6, f.r7, f.k7, f.r9, f.k9, k.k, k.r0, k.k0, k.rl, k.r1, k.r2, k.ac.k, k.lo.k, ix_nI, cl_nI, lt_nI, eq_nI, sub_nI, Nat.reduceEqDiff, Nat.one_ne_zero, Nat.not_lt_zero, ↓reduceIte, h]
/-! near -/
theorem nx_near {i p s j q t : Nat} (hs : 1 ≤ s ∧ s ≤ 3) (ht : 1 ≤ t ∧ t ≤ 3) (hd : i = j → p + s ≤ q ∨ q + t ≤ p) : anyR (fun k => anyR (fun r => nx i (p + k) j (q + r)) 0 t) 0 s = nxB i p s j q t := by
  rw [Bool.eq_iff_iff, anyR_iff]
  have e : nxB i p s j q t = true ↔ (i = j ∧ (p + s = q ∨ q + t = p)) ∨ (i ≠ j ∧ (i = j + 1 ∨ j = i + 1) ∧ p < q + t ∧ q < p + s) := by
    unfold nxB
    by_cases h : i = j
    · rw [if_pos h, Bool.or_eq_true, decide_eq_true_eq, decide_eq_true_eq]
      constructor
      · intro z; exact Or.inl ⟨h, z⟩
      · rintro (⟨-, z⟩ | ⟨z, -⟩)
        · exact z
        · exact absurd h z
    · rw [if_neg h, Bool.and_eq_true, Bool.and_eq_true, Bool.or_eq_true, decide_eq_true_eq, decide_eq_true_eq, decide_eq_true_eq, decide_eq_true_eq]
      constructor
      · intro z; exact Or.inr ⟨h, z⟩
      · rintro (⟨z, -⟩ | ⟨-, z⟩)
        · exact absurd z h
        · exact z
  rw [e]
  constructor
  · rintro ⟨k, -, k1, k2⟩
    rw [anyR_iff] at k2
    obtain ⟨r, -, r1, r2⟩ := k2
    rcases nx_iff.mp r2 with ⟨z1, z2⟩ | ⟨z1, z2⟩
    · left
      have := hd z1
      exact ⟨z1, by omega⟩
    · right
      exact ⟨by omega, by omega, by omega, by omega⟩
  · have mk : ∀ k r, k < s → r < t → nx i (p + k) j (q + r) = true → ∃ k, 0 ≤ k ∧ k < 0 + s ∧ anyR (fun r => nx i (p + k) j (q + r)) 0 t = true := fun k r h1 h2 h3 => ⟨k, by omega, by omega, (anyR_iff _ _ _).mpr ⟨r, by omega, by omega, h3⟩⟩
    rintro (⟨z1, z2⟩ | ⟨z0, z1, z2, z3⟩)
    · rcases z2 with z2 | z2
      · exact mk (s - 1) 0 (by omega) (by omega) (nx_iff.mpr (Or.inl ⟨z1, by omega⟩))
      · exact mk 0 (t - 1) (by omega) (by omega) (nx_iff.mpr (Or.inl ⟨z1, by omega⟩))
    · by_cases h : p ≤ q
      · exact mk (q - p) 0 (by omega) (by omega) (nx_iff.mpr (Or.inr ⟨by omega, by omega⟩))
      · exact mk 0 (p - q) (by omega) (by omega) (nx_iff.mpr (Or.inr ⟨by omega, by omega⟩))
theorem op_15 {B : Nat} {m : am_M} {x y : Int32} (G : Good B m) : Op1 B 105 180 [.int x, .int y] m := by
  obtain ⟨s, c, w, W⟩ := G
  have f := c.1
  have k := f.sh
  have v := c.2.1
  have Q := W.1
  have n2 := Q.nm.2
  have ko := k.lo
  have hcn : mI m (B + 1 + 2) 9 = nI (nm (stS s)) := by rw [v.lo.1]; exact Q.nm.1
  have MN : NmOk (mI m (B + 82 + 1)) := by rw [w.2.1]; exact Q.nm
  rcases rng x (nm (stS s)) (by omega) with hb | ⟨l1, hl1, rfl⟩
  · refine op_r c w W (nI 0) ?_ (sp_180b (d := 37) (Or.inl (by rw [w.2.1]; exact hb)) w.1 MN)
    have a := sp_30b (d := 37) ko hcn hb
    by_cases hxy : x = y
    · simp (disch := first | (simp (disch := omega) only [am_k_some, va_rf_some, va_rf_none, tl_some, tl_none, am_clr_int, am_clr_ref, am_clr_none, am_clr_long, am_w_nil, am_w_int, am_w_ref, am_w_long, am_w_null, am_bb_0, am_bb_1, am_bb_bI, xK_sI, xR_sI, xS_sI, xN_sI, xK_sL, xR_sL, xS_sL, xN_sL, xK_sR, xR_sR, xS_sR, xN_sR, xK_sA, xR_sA, xS_sA, xN_sA, Nat.reduceAdd, Nat.reduceLeDiff, sI_sA, I_sA', sA_sA, I_sA, I_sA', nI_add, mul_nI, bI_0, bI_1, f.k, f.r0, f.r1, f.r2, f.k2, f.r4, f.k4, f.r5, f.k5, f.r6, f.k6, f.r7, f.k7, f.r9, f.k9, k.k, k.r0, k.k0, k.rl, k.r1, k.r2, k.ac.k, k.lo.k, ix_nI, cl_nI]; done) | omega | assumption) only [c105, e105_0, e105_1, e105_2, e105_5, e105_6, e105_9, e105_12, e105_13, e105_16, e105_19, e105_20, e105_23, e105_26, e105_27, e105_30, e105_33, e105_34, e105_37, e105_40, e105_41, e105_42, e105_45, e105_48, e105_49, e105_52, e105_53, am_k_some, va_rf_some, va_rf_none, tl_some, tl_none, am_clr_int, am_clr_ref, am_clr_none, am_clr_long, am_w_nil, am_w_int, am_w_ref, am_w_long, am_w_null, am_bb_0, am_bb_1, am_bb_bI, xK_sI, xR_sI, xS_sI, xN_sI, xK_sL, xR_sL, xS_sL, xN_sL, xK_sR, xR_sR, xS_sR, xN_sR, xK_sA, xR_sA, xS_sA, xN_sA, Nat.reduceAdd, Nat.reduceLeDiff, sI_sA, I_sA', sA_sA, I_sA, I_sA', nI_add, mul_nI, bI_0, bI_1, f.k, f.r0, f.r1, f.r2, f.k2, f.r4, f.k4, f.r5, f.k5, f.r6, f.k6, f.r7, f.k7, f.r9, f.k9, k.k, k.r0, k.k0, k.rl, k.r1, k.r2, k.ac.k, k.lo.k, ix_nI, cl_nI, lt_nI, eq_nI, sub_nI, Nat.reduceEqDiff, Nat.one_ne_zero, Nat.not_lt_zero, ↓reduceIte, n10, n01, eq_true hxy]
    · simp (disch := first | (simp (disch := omega) only [am_k_some, va_rf_some, va_rf_none, tl_some, tl_none, am_clr_int, am_clr_ref, am_clr_none, am_clr_long, am_w_nil, am_w_int, am_w_ref, am_w_long, am_w_null, am_bb_0, am_bb_1, am_bb_bI, xK_sI, xR_sI, xS_sI, xN_sI, xK_sL, xR_sL, xS_sL, xN_sL, xK_sR, xR_sR, xS_sR, xN_sR, xK_sA, xR_sA, xS_sA, xN_sA, Nat.reduceAdd, Nat.reduceLeDiff, sI_sA, I_sA', sA_sA, I_sA, I_sA', nI_add, mul_nI, bI_0, bI_1, f.k, f.r0, f.r1, f.r2, f.k2, f.r4, f.k4, f.r5, f.k5, f.r6, f.k6, f.r7, f.k7, f.r9, f.k9, k.k, k.r0, k.k0, k.rl, k.r1, k.r2, k.ac.k, k.lo.k, ix_nI, cl_nI]; done) | omega | assumption) only [c105, e105_0, e105_1, e105_2, e105_5, e105_6, e105_9, e105_12, e105_13, e105_16, e105_19, e105_20, e105_23, e105_26, e105_27, e105_30, e105_33, e105_34, e105_37, e105_40, e105_41, e105_42, e105_45, e105_48, e105_49, e105_52, e105_53, am_k_some, va_rf_some, va_rf_none, tl_some, tl_none, am_clr_int, am_clr_ref, am_clr_none, am_clr_long, am_w_nil, am_w_int, am_w_ref, am_w_long, am_w_null, am_bb_0, am_bb_1, am_bb_bI, xK_sI, xR_sI, xS_sI, xN_sI, xK_sL, xR_sL, xS_sL, xN_sL, xK_sR, xR_sR, xS_sR, xN_sR, xK_sA, xR_sA, xS_sA, xN_sA, Nat.reduceAdd, Nat.reduceLeDiff, sI_sA, I_sA', sA_sA, I_sA, I_sA', nI_add, mul_nI, bI_0, bI_1, f.k, f.r0, f.r1, f.r2, f.k2, f.r4, f.k4, f.r5, f.k5, f.r6, f.k6, f.r7, f.k7, f.r9, f.k9, k.k, k.r0, k.k0, k.rl, k.r1, k.r2, k.ac.k, k.lo.k, ix_nI, cl_nI, lt_nI, eq_nI, sub_nI, Nat.reduceEqDiff, Nat.one_ne_zero, Nat.not_lt_zero, ↓reduceIte, n10, n01, hxy, a]
  rcases rng y (nm (stS s)) (by omega) with hb | ⟨l2, hl2, rfl⟩
  · refine op_r c w W (nI 0) ?_ (sp_180b (d := 37) (Or.inr (by rw [w.2.1]; exact hb)) w.1 MN)
    have a := sp_30b (d := 37) ko hcn hb
    have b := sp_30v (d := 37) ko hcn n2 hl1
    rw [(v.lo.2 l1 hl1).2.2.2.2.2.2.1] at b
    by_cases hxy : nI l1 = y
    · simp (disch := first | (simp (disch := omega) only [am_k_some, va_rf_some, va_rf_none, tl_some, tl_none, am_clr_int, am_clr_ref, am_clr_none, am_clr_long, am_w_nil, am_w_int, am_w_ref, am_w_long, am_w_null, am_bb_0, am_bb_1, am_bb_bI, xK_sI, xR_sI, xS_sI, xN_sI, xK_sL, xR_sL, xS_sL, xN_sL, xK_sR, xR_sR, xS_sR, xN_sR, xK_sA, xR_sA, xS_sA, xN_sA, Nat.reduceAdd, Nat.reduceLeDiff, sI_sA, I_sA', sA_sA, I_sA, I_sA', nI_add, mul_nI, bI_0, bI_1, f.k, f.r0, f.r1, f.r2, f.k2, f.r4, f.k4, f.r5, f.k5, f.r6, f.k6, f.r7, f.k7, f.r9, f.k9, k.k, k.r0, k.k0, k.rl, k.r1, k.r2, k.ac.k, k.lo.k, ix_nI, cl_nI]; done) | omega | assumption) only [c105, e105_0, e105_1, e105_2, e105_5, e105_6, e105_9, e105_12, e105_13, e105_16, e105_19, e105_20, e105_23, e105_26, e105_27, e105_30, e105_33, e105_34, e105_37, e105_40, e105_41, e105_42, e105_45, e105_48, e105_49, e105_52, e105_53, am_k_some, va_rf_some, va_rf_none, tl_some, tl_none, am_clr_int, am_clr_ref, am_clr_none, am_clr_long, am_w_nil, am_w_int, am_w_ref, am_w_long, am_w_null, am_bb_0, am_bb_1, am_bb_bI, xK_sI, xR_sI, xS_sI, xN_sI, xK_sL, xR_sL, xS_sL, xN_sL, xK_sR, xR_sR, xS_sR, xN_sR, xK_sA, xR_sA, xS_sA, xN_sA, Nat.reduceAdd, Nat.reduceLeDiff, sI_sA, I_sA', sA_sA, I_sA, I_sA', nI_add, mul_nI, bI_0, bI_1, f.k, f.r0, f.r1, f.r2, f.k2, f.r4, f.k4, f.r5, f.k5, f.r6, f.k6, f.r7, f.k7, f.r9, f.k9, k.k, k.r0, k.k0, k.rl, k.r1, k.r2, k.ac.k, k.lo.k, ix_nI, cl_nI, lt_nI, eq_nI, sub_nI, Nat.reduceEqDiff, Nat.one_ne_zero, Nat.not_lt_zero, ↓reduceIte, n10, n01, eq_true hxy]
    · by_cases h1 : stS s (3300 + l1) = nI 1
      · rw [decide_eq_true h1] at b
        simp (disch := first | (simp (disch := omega) only [am_k_some, va_rf_some, va_rf_none, tl_some, tl_none, am_clr_int, am_clr_ref, am_clr_none, am_clr_long, am_w_nil, am_w_int, am_w_ref, am_w_long, am_w_null, am_bb_0, am_bb_1, am_bb_bI, xK_sI, xR_sI, xS_sI, xN_sI, xK_sL, xR_sL, xS_sL, xN_sL, xK_sR, xR_sR, xS_sR, xN_sR, xK_sA, xR_sA, xS_sA, xN_sA, Nat.reduceAdd, Nat.reduceLeDiff, sI_sA, I_sA', sA_sA, I_sA, I_sA', nI_add, mul_nI, bI_0, bI_1, f.k, f.r0, f.r1, f.r2, f.k2, f.r4, f.k4, f.r5, f.k5, f.r6, f.k6, f.r7, f.k7, f.r9, f.k9, k.k, k.r0, k.k0, k.rl, k.r1, k.r2, k.ac.k, k.lo.k, ix_nI, cl_nI]; done) | omega | assumption) only [c105, e105_0, e105_1, e105_2, e105_5, e105_6, e105_9, e105_12, e105_13, e105_16, e105_19, e105_20, e105_23, e105_26, e105_27, e105_30, e105_33, e105_34, e105_37, e105_40, e105_41, e105_42, e105_45, e105_48, e105_49, e105_52, e105_53, am_k_some, va_rf_some, va_rf_none, tl_some, tl_none, am_clr_int, am_clr_ref, am_clr_none, am_clr_long, am_w_nil, am_w_int, am_w_ref, am_w_long, am_w_null, am_bb_0, am_bb_1, am_bb_bI, xK_sI, xR_sI, xS_sI, xN_sI, xK_sL, xR_sL, xS_sL, xN_sL, xK_sR, xR_sR, xS_sR, xN_sR, xK_sA, xR_sA, xS_sA, xN_sA, Nat.reduceAdd, Nat.reduceLeDiff, sI_sA, I_sA', sA_sA, I_sA, I_sA', nI_add, mul_nI, bI_0, bI_1, f.k, f.r0, f.r1, f.r2, f.k2, f.r4, f.k4, f.r5, f.k5, f.r6, f.k6, f.r7, f.k7, f.r9, f.k9, k.k, k.r0, k.k0, k.rl, k.r1, k.r2, k.ac.k, k.lo.k, ix_nI, cl_nI, lt_nI, eq_nI, sub_nI, Nat.reduceEqDiff, Nat.one_ne_zero, Nat.not_lt_zero, ↓reduceIte, n10, n01, hxy, a, b, bI_t]
      · rw [decide_eq_false h1] at b
        simp (disch := first | (simp (disch := omega) only [am_k_some, va_rf_some, va_rf_none, tl_some, tl_none, am_clr_int, am_clr_ref, am_clr_none, am_clr_long, am_w_nil, am_w_int, am_w_ref, am_w_long, am_w_null, am_bb_0, am_bb_1, am_bb_bI, xK_sI, xR_sI, xS_sI, xN_sI, xK_sL, xR_sL, xS_sL, xN_sL, xK_sR, xR_sR, xS_sR, xN_sR, xK_sA, xR_sA, xS_sA, xN_sA, Nat.reduceAdd, Nat.reduceLeDiff, sI_sA, I_sA', sA_sA, I_sA, I_sA', nI_add, mul_nI, bI_0, bI_1, f.k, f.r0, f.r1, f.r2, f.k2, f.r4, f.k4, f.r5, f.k5, f.r6, f.k6, f.r7, f.k7, f.r9, f.k9, k.k, k.r0, k.k0, k.rl, k.r1, k.r2, k.ac.k, k.lo.k, ix_nI, cl_nI]; done) | omega | assumption) only [c105, e105_0, e105_1, e105_2, e105_5, e105_6, e105_9, e105_12, e105_13, e105_16, e105_19, e105_20, e105_23, e105_26, e105_27, e105_30, e105_33, e105_34, e105_37, e105_40, e105_41, e105_42, e105_45, e105_48, e105_49, e105_52, e105_53, am_k_some, va_rf_some, va_rf_none, tl_some, tl_none, am_clr_int, am_clr_ref, am_clr_none, am_clr_long, am_w_nil, am_w_int, am_w_ref, am_w_long, am_w_null, am_bb_0, am_bb_1, am_bb_bI, xK_sI, xR_sI, xS_sI, xN_sI, xK_sL, xR_sL, xS_sL, xN_sL, xK_sR, xR_sR, xS_sR, xN_sR, xK_sA, xR_sA, xS_sA, xN_sA, Nat.reduceAdd, Nat.reduceLeDiff, sI_sA, I_sA', sA_sA, I_sA, I_sA', nI_add, mul_nI, bI_0, bI_1, f.k, f.r0, f.r1, f.r2, f.k2, f.r4, f.k4, f.r5, f.k5, f.r6, f.k6, f.r7, f.k7, f.r9, f.k9, k.k, k.r0, k.k0, k.rl, k.r1, k.r2, k.ac.k, k.lo.k, ix_nI, cl_nI, lt_nI, eq_nI, sub_nI, Nat.reduceEqDiff, Nat.one_ne_zero, Nat.not_lt_zero, ↓reduceIte, n10, n01, hxy, b, bI_f]
  have M := sp_180 (d := 37) w.1 MN (by rw [w.2.1]; exact Q.w.ok Q.ln) (show l1 < nm (mI m (B + 82 + 1)) by rw [w.2.1]; exact hl1) (show l2 < nm (mI m (B + 82 + 1)) by rw [w.2.1]; exact hl2)
  rw [w.2.1] at M
  refine op_r c w W _ ?_ M
  have b1 := sp_30v (d := 37) ko hcn n2 hl1
  have b2 := sp_30v (d := 37) ko hcn n2 hl2
  obtain ⟨a1, -, -, -, -, -, a7, a8, a9⟩ := v.lo.2 l1 hl1
  obtain ⟨c1, -, -, -, -, -, c7, c8, c9⟩ := v.lo.2 l2 hl2
  rw [a7] at b1
  rw [c7] at b2
  by_cases hxy : l1 = l2
  · have hne : ¬ (l1 ≠ l2) := fun q => q hxy
    rw [decide_eq_false hne, Bool.false_and, Bool.false_and, Bool.false_and, bI_f]
    simp (disch := first | (simp (disch := omega) only [am_k_some, va_rf_some, va_rf_none, tl_some, tl_none, am_clr_int, am_clr_ref, am_clr_none, am_clr_long, am_w_nil, am_w_int, am_w_ref, am_w_long, am_w_null, am_bb_0, am_bb_1, am_bb_bI, xK_sI, xR_sI, xS_sI, xN_sI, xK_sL, xR_sL, xS_sL, xN_sL, xK_sR, xR_sR, xS_sR, xN_sR, xK_sA, xR_sA, xS_sA, xN_sA, Nat.reduceAdd, Nat.reduceLeDiff, sI_sA, I_sA', sA_sA, I_sA, I_sA', nI_add, mul_nI, bI_0, bI_1, f.k, f.r0, f.r1, f.r2, f.k2, f.r4, f.k4, f.r5, f.k5, f.r6, f.k6, f.r7, f.k7, f.r9, f.k9, k.k, k.r0, k.k0, k.rl, k.r1, k.r2, k.ac.k, k.lo.k, ix_nI, cl_nI]; done) | omega | assumption) only [c105, e105_0, e105_1, e105_2, e105_5, e105_6, e105_9, e105_12, e105_13, e105_16, e105_19, e105_20, e105_23, e105_26, e105_27, e105_30, e105_33, e105_34, e105_37, e105_40, e105_41, e105_42, e105_45, e105_48, e105_49, e105_52, e105_53, am_k_some, va_rf_some, va_rf_none, tl_some, tl_none, am_clr_int, am_clr_ref, am_clr_none, am_clr_long, am_w_nil, am_w_int, am_w_ref, am_w_long, am_w_null, am_bb_0, am_bb_1, am_bb_bI, xK_sI, xR_sI, xS_sI, xN_sI, xK_sL, xR_sL, xS_sL, xN_sL, xK_sR, xR_sR, xS_sR, xN_sR, xK_sA, xR_sA, xS_sA, xN_sA, Nat.reduceAdd, Nat.reduceLeDiff, sI_sA, I_sA', sA_sA, I_sA, I_sA', nI_add, mul_nI, bI_0, bI_1, f.k, f.r0, f.r1, f.r2, f.k2, f.r4, f.k4, f.r5, f.k5, f.r6, f.k6, f.r7, f.k7, f.r9, f.k9, k.k, k.r0, k.k0, k.rl, k.r1, k.r2, k.ac.k, k.lo.k, ix_nI, cl_nI, lt_nI, eq_nI, sub_nI, Nat.reduceEqDiff, Nat.one_ne_zero, Nat.not_lt_zero, ↓reduceIte, n10, n01, hxy]
  have hne : l1 ≠ l2 := hxy
  rw [decide_eq_true hne, Bool.true_and]
  by_cases h1 : stS s (3300 + l1) = nI 1
  · rw [decide_eq_true h1] at b1
    rw [decide_eq_true h1, Bool.true_and]
    by_cases h2 : stS s (3300 + l2) = nI 1
    · rw [decide_eq_true h2] at b2
      rw [decide_eq_true h2, Bool.true_and]
      rcases Q.w l1 hl1 with ⟨z, -⟩ | ⟨i, p, s1⟩
      · rw [h1] at z; exfalso; revert z; decide
      rcases Q.w l2 hl2 with ⟨z, -⟩ | ⟨j, q, s2⟩
      · rw [h2] at z; exfalso; revert z; decide
      have hi := s1.2.2.2.1
      have hj := s2.2.2.2.1
      have p6 := s1.2.2.2.2.2.1
      have q6 := s2.2.2.2.2.2.1
      have li := (Q.ln i hi).2
      have lj := (Q.ln j hj).2
      have hdis : i = j → p + spanS (stS s) l1 ≤ q ∨ q + spanS (stS s) l2 ≤ p := by
        intro e
        subst e
        by_cases hov : p + spanS (stS s) l1 ≤ q ∨ q + spanS (stS s) l2 ≤ p
        · exact hov
        · exfalso
          have sp1 := spanS_le (stS s) l1
          have sp2 := spanS_le (stS s) l2
          by_cases hpq : p ≤ q
          · have e1 := s1.at (p := q) hpq (by omega)
            have e2 := s2.at (p := q) (Nat.le_refl _) (by omega)
            rw [e1, eq_nI (by omega) (by omega)] at e2
            exact hxy e2
          · have e1 := s1.at (p := p) (Nat.le_refl _) (by omega)
            have e2 := s2.at (p := p) (by omega) (by omega)
            rw [e1, eq_nI (by omega) (by omega)] at e2
            exact hxy e2
      have hn : nearS (stS s) l1 l2 = nxB i p (spanS (stS s) l1) j q (spanS (stS s) l2) := by
        unfold nearS
        rw [s1.2.1, s1.2.2.1, s2.2.1, s2.2.2.1, cl_nI (by omega), cl_nI (by omega), cl_nI (by omega), cl_nI (by omega)]
        exact nx_near (spanS_le _ _) (spanS_le _ _) hdis
      rw [hn]
      have an := sp_33 (d := 36) (l1 := l1) (l2 := l2) (i := i) (p := p) (j := j) (q := q) (s := spanS (stS s) l1) (t := spanS (stS s) l2) ko (by omega) (by omega) (by omega) (by omega) (by omega) (by omega) (by rw [a8]; exact s1.2.1) (by rw [c8]; exact s2.2.1) (by rw [a9]; exact s1.2.2.1) (by rw [c9]; exact s2.2.2.1) (by rw [a1]; rfl) (by rw [c1]; rfl)
      cases hb : nxB i p (spanS (stS s) l1) j q (spanS (stS s) l2) with
      | true =>
        rw [hb] at an
        simp (disch := first | (simp (disch := omega) only [am_k_some, va_rf_some, va_rf_none, tl_some, tl_none, am_clr_int, am_clr_ref, am_clr_none, am_clr_long, am_w_nil, am_w_int, am_w_ref, am_w_long, am_w_null, am_bb_0, am_bb_1, am_bb_bI, xK_sI, xR_sI, xS_sI, xN_sI, xK_sL, xR_sL, xS_sL, xN_sL, xK_sR, xR_sR, xS_sR, xN_sR, xK_sA, xR_sA, xS_sA, xN_sA, Nat.reduceAdd, Nat.reduceLeDiff, sI_sA, I_sA', sA_sA, I_sA, I_sA', nI_add, mul_nI, bI_0, bI_1, f.k, f.r0, f.r1, f.r2, f.k2, f.r4, f.k4, f.r5, f.k5, f.r6, f.k6, f.r7, f.k7, f.r9, f.k9, k.k, k.r0, k.k0, k.rl, k.r1, k.r2, k.ac.k, k.lo.k, ix_nI, cl_nI]; done) | omega | assumption) only [c105, e105_0, e105_1, e105_2, e105_5, e105_6, e105_9, e105_12, e105_13, e105_16, e105_19, e105_20, e105_23, e105_26, e105_27, e105_30, e105_33, e105_34, e105_37, e105_40, e105_41, e105_42, e105_45, e105_48, e105_49, e105_52, e105_53, am_k_some, va_rf_some, va_rf_none, tl_some, tl_none, am_clr_int, am_clr_ref, am_clr_none, am_clr_long, am_w_nil, am_w_int, am_w_ref, am_w_long, am_w_null, am_bb_0, am_bb_1, am_bb_bI, xK_sI, xR_sI, xS_sI, xN_sI, xK_sL, xR_sL, xS_sL, xN_sL, xK_sR, xR_sR, xS_sR, xN_sR, xK_sA, xR_sA, xS_sA, xN_sA, Nat.reduceAdd, Nat.reduceLeDiff, sI_sA, I_sA', sA_sA, I_sA, I_sA', nI_add, mul_nI, bI_0, bI_1, f.k, f.r0, f.r1, f.r2, f.k2, f.r4, f.k4, f.r5, f.k5, f.r6, f.k6, f.r7, f.k7, f.r9, f.k9, k.k, k.r0, k.k0, k.rl, k.r1, k.r2, k.ac.k, k.lo.k, ix_nI, cl_nI, lt_nI, eq_nI, sub_nI, Nat.reduceEqDiff, Nat.one_ne_zero, Nat.not_lt_zero, ↓reduceIte, n10, n01, hxy, b1, b2, bI_t, an]
      | false =>
        rw [hb] at an
        simp (disch := first | (simp (disch := omega) only [am_k_some, va_rf_some, va_rf_none, tl_some, tl_none, am_clr_int, am_clr_ref, am_clr_none, am_clr_long, am_w_nil, am_w_int, am_w_ref, am_w_long, am_w_null, am_bb_0, am_bb_1, am_bb_bI, xK_sI, xR_sI, xS_sI, xN_sI, xK_sL, xR_sL, xS_sL, xN_sL, xK_sR, xR_sR, xS_sR, xN_sR, xK_sA, xR_sA, xS_sA, xN_sA, Nat.reduceAdd, Nat.reduceLeDiff, sI_sA, I_sA', sA_sA, I_sA, I_sA', nI_add, mul_nI, bI_0, bI_1, f.k, f.r0, f.r1, f.r2, f.k2, f.r4, f.k4, f.r5, f.k5, f.r6, f.k6, f.r7, f.k7, f.r9, f.k9, k.k, k.r0, k.k0, k.rl, k.r1, k.r2, k.ac.k, k.lo.k, ix_nI, cl_nI]; done) | omega | assumption) only [c105, e105_0, e105_1, e105_2, e105_5, e105_6, e105_9, e105_12, e105_13, e105_16, e105_19, e105_20, e105_23, e105_26, e105_27, e105_30, e105_33, e105_34, e105_37, e105_40, e105_41, e105_42, e105_45, e105_48, e105_49, e105_52, e105_53, am_k_some, va_rf_some, va_rf_none, tl_some, tl_none, am_clr_int, am_clr_ref, am_clr_none, am_clr_long, am_w_nil, am_w_int, am_w_ref, am_w_long, am_w_null, am_bb_0, am_bb_1, am_bb_bI, xK_sI, xR_sI, xS_sI, xN_sI, xK_sL, xR_sL, xS_sL, xN_sL, xK_sR, xR_sR, xS_sR, xN_sR, xK_sA, xR_sA, xS_sA, xN_sA, Nat.reduceAdd, Nat.reduceLeDiff, sI_sA, I_sA', sA_sA, I_sA, I_sA', nI_add, mul_nI, bI_0, bI_1, f.k, f.r0, f.r1, f.r2, f.k2, f.r4, f.k4, f.r5, f.k5, f.r6, f.k6, f.r7, f.k7, f.r9, f.k9, k.k, k.r0, k.k0, k.rl, k.r1, k.r2, k.ac.k, k.lo.k, ix_nI, cl_nI, lt_nI, eq_nI, sub_nI, Nat.reduceEqDiff, Nat.one_ne_zero, Nat.not_lt_zero, ↓reduceIte, n10, n01, hxy, b1, b2, bI_t, bI_f, an]
    · rw [decide_eq_false h2] at b2
      rw [decide_eq_false h2, Bool.false_and, bI_f]
      simp (disch := first | (simp (disch := omega) only [am_k_some, va_rf_some, va_rf_none, tl_some, tl_none, am_clr_int, am_clr_ref, am_clr_none, am_clr_long, am_w_nil, am_w_int, am_w_ref, am_w_long, am_w_null, am_bb_0, am_bb_1, am_bb_bI, xK_sI, xR_sI, xS_sI, xN_sI, xK_sL, xR_sL, xS_sL, xN_sL, xK_sR, xR_sR, xS_sR, xN_sR, xK_sA, xR_sA, xS_sA, xN_sA, Nat.reduceAdd, Nat.reduceLeDiff, sI_sA, I_sA', sA_sA, I_sA, I_sA', nI_add, mul_nI, bI_0, bI_1, f.k, f.r0, f.r1, f.r2, f.k2, f.r4, f.k4, f.r5, f.k5, f.r6, f.k6, f.r7, f.k7, f.r9, f.k9, k.k, k.r0, k.k0, k.rl, k.r1, k.r2, k.ac.k, k.lo.k, ix_nI, cl_nI]; done) | omega | assumption) only [c105, e105_0, e105_1, e105_2, e105_5, e105_6, e105_9, e105_12, e105_13, e105_16, e105_19, e105_20, e105_23, e105_26, e105_27, e105_30, e105_33, e105_34, e105_37, e105_40, e105_41, e105_42, e105_45, e105_48, e105_49, e105_52, e105_53, am_k_some, va_rf_some, va_rf_none, tl_some, tl_none, am_clr_int, am_clr_ref, am_clr_none, am_clr_long, am_w_nil, am_w_int, am_w_ref, am_w_long, am_w_null, am_bb_0, am_bb_1, am_bb_bI, xK_sI, xR_sI, xS_sI, xN_sI, xK_sL, xR_sL, xS_sL, xN_sL, xK_sR, xR_sR, xS_sR, xN_sR, xK_sA, xR_sA, xS_sA, xN_sA, Nat.reduceAdd, Nat.reduceLeDiff, sI_sA, I_sA', sA_sA, I_sA, I_sA', nI_add, mul_nI, bI_0, bI_1, f.k, f.r0, f.r1, f.r2, f.k2, f.r4, f.k4, f.r5, f.k5, f.r6, f.k6, f.r7, f.k7, f.r9, f.k9, k.k, k.r0, k.k0, k.rl, k.r1, k.r2, k.ac.k, k.lo.k, ix_nI, cl_nI, lt_nI, eq_nI, sub_nI, Nat.reduceEqDiff, Nat.one_ne_zero, Nat.not_lt_zero, ↓reduceIte, n10, n01, hxy, b1, b2, bI_t, bI_f]
  · rw [decide_eq_false h1] at b1
    rw [decide_eq_false h1, Bool.false_and, Bool.false_and, bI_f]
    simp (disch := first | (simp (disch := omega) only [am_k_some, va_rf_some, va_rf_none, tl_some, tl_none, am_clr_int, am_clr_ref, am_clr_none, am_clr_long, am_w_nil, am_w_int, am_w_ref, am_w_long, am_w_null, am_bb_0, am_bb_1, am_bb_bI, xK_sI, xR_sI, xS_sI, xN_sI, xK_sL, xR_sL, xS_sL, xN_sL, xK_sR, xR_sR, xS_sR, xN_sR, xK_sA, xR_sA, xS_sA, xN_sA, Nat.reduceAdd, Nat.reduceLeDiff, sI_sA, I_sA', sA_sA, I_sA, I_sA', nI_add, mul_nI, bI_0, bI_1, f.k, f.r0, f.r1, f.r2, f.k2, f.r4, f.k4, f.r5, f.k5, f.r6, f.k6, f.r7, f.k7, f.r9, f.k9, k.k, k.r0, k.k0, k.rl, k.r1, k.r2, k.ac.k, k.lo.k, ix_nI, cl_nI]; done) | omega | assumption) only [c105, e105_0, e105_1, e105_2, e105_5, e105_6, e105_9, e105_12, e105_13, e105_16, e105_19, e105_20, e105_23, e105_26, e105_27, e105_30, e105_33, e105_34, e105_37, e105_40, e105_41, e105_42, e105_45, e105_48, e105_49, e105_52, e105_53, am_k_some, va_rf_some, va_rf_none, tl_some, tl_none, am_clr_int, am_clr_ref, am_clr_none, am_clr_long, am_w_nil, am_w_int, am_w_ref, am_w_long, am_w_null, am_bb_0, am_bb_1, am_bb_bI, xK_sI, xR_sI, xS_sI, xN_sI, xK_sL, xR_sL, xS_sL, xN_sL, xK_sR, xR_sR, xS_sR, xN_sR, xK_sA, xR_sA, xS_sA, xN_sA, Nat.reduceAdd, Nat.reduceLeDiff, sI_sA, I_sA', sA_sA, I_sA, I_sA', nI_add, mul_nI, bI_0, bI_1, f.k, f.r0, f.r1, f.r2, f.k2, f.r4, f.k4, f.r5, f.k5, f.r6, f.k6, f.r7, f.k7, f.r9, f.k9, k.k, k.r0, k.k0, k.rl, k.r1, k.r2, k.ac.k, k.lo.k, ix_nI, cl_nI, lt_nI, eq_nI, sub_nI, Nat.reduceEqDiff, Nat.one_ne_zero, Nat.not_lt_zero, ↓reduceIte, n10, n01, hxy, b1, bI_f]
