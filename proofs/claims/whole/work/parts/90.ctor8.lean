/-! CONSTRUCTORS, 8: the model: the loops that set -1 -/
def flA (lo hi : Nat) (g : Nat → Int32) : Nat → Int32 := fun y => if lo ≤ y ∧ y < hi then -1 else g y
theorem flA_0 {lo hi : Nat} (g : Nat → Int32) (h : hi ≤ lo) : flA lo hi g = g := by
  funext y
  unfold flA
  rw [if_neg (by omega)]
theorem flA_s {lo hi : Nat} (g : Nat → Int32) (h : lo < hi) : flA (lo + 1) hi (up1 g lo (-1)) = flA lo hi g := by
  funext y
  unfold flA up1
  by_cases h1 : y = lo
  · rw [if_neg (by omega), if_pos h1, if_pos (by omega)]
  · rw [if_neg h1]
    by_cases h2 : lo + 1 ≤ y ∧ y < hi
    · rw [if_pos h2, if_pos (by omega)]
    · rw [if_neg h2, if_neg (by omega)]
theorem sp_138b {d o : Nat} : ∀ (n i : Nat) (m : am_M) (_ : i + n = 800) (_ : Mo m o), ev d 138 133 [some (.ref o), some (.int (nI i))] [] m = ev d 138 153 [some (.ref o), some (.int (nI 800))] [] (sA m (o + 1) (flA i 800 (mI m (o + 1))))
  | 0, i, m, hi, h => by
    have hi' : i = 800 := by omega
    subst hi'
    rw [flA_0 _ (Nat.le_refl _), sA_self]
    simp (disch := omega) only [e138_0, e138_1, e138_4, e138_5, e138_8, e138_10, e138_13, e138_14, e138_17, e138_19, e138_22, e138_23, e138_26, e138_28, e138_31, e138_32, e138_35, e138_37, e138_40, e138_41, e138_42, e138_44, e138_47, e138_48, e138_49, e138_51, e138_54, e138_55, e138_58, e138_60, e138_63, e138_64, e138_66, e138_68, e138_71, e138_72, e138_74, e138_76, e138_79, e138_80, e138_81, e138_84, e138_85, e138_87, e138_89, e138_92, e138_93, e138_94, e138_96, e138_99, e138_100, e138_102, e138_104, e138_107, e138_108, e138_110, e138_112, e138_115, e138_116, e138_118, e138_120, e138_123, e138_124, e138_126, e138_128, e138_131, e138_132, e138_133, e138_134, e138_137, e138_140, e138_141, e138_144, e138_145, e138_146, e138_147, e138_150, e138_153, e138_154, e138_155, e138_156, e138_159, e138_162, e138_163, e138_166, e138_169, e138_170, e138_171, e138_172, e138_173, e138_174, e138_177, e138_180, e138_181, e138_182, e138_183, e138_184, e138_187, e138_190, e138_191, e138_194, e138_197, e138_198, e138_199, e138_200, e138_203, e138_206, e138_207, e138_208, e138_209, e138_212, e138_213, e138_216, e138_217, am_k_some, va_rf_some, va_rf_none, tl_some, tl_none, am_clr_int, am_clr_ref, am_clr_none, am_clr_long, am_w_nil, am_w_int, am_w_ref, am_w_long, am_w_null, am_bb_0, am_bb_1, am_bb_bI, xK_sI, xR_sI, xS_sI, xN_sI, xK_sL, xR_sL, xS_sL, xN_sL, xK_sR, xR_sR, xS_sR, xN_sR, xK_sA, xR_sA, xS_sA, xN_sA, Nat.reduceAdd, Nat.reduceLeDiff, sI_sA, I_sA', sA_sA, I_sA, I_sA', nI_add, mul_nI, bI_0, bI_1, ix_nI, cl_nI, lt_nI, eq_nI, sub_nI, Nat.reduceEqDiff, Nat.one_ne_zero, Nat.not_lt_zero, ↓reduceIte, Nat.lt_irrefl]
  | n + 1, i, m, hi, h => by
    have hlt : i < 800 := by omega
    have g := sp_138b (d := d) (o := o) n (i + 1) (sA m (o + 1) (up1 (mI m (o + 1)) i (-1))) (by omega) (by rw [Mo_sA]; exact h)
    rw [I_sA, flA_s _ hlt, sA_sA] at g
    rw [← g, e138_133]
    simp (disch := first | (simp (disch := omega) only [am_k_some, va_rf_some, va_rf_none, tl_some, tl_none, am_clr_int, am_clr_ref, am_clr_none, am_clr_long, am_w_nil, am_w_int, am_w_ref, am_w_long, am_w_null, am_bb_0, am_bb_1, am_bb_bI, xK_sI, xR_sI, xS_sI, xN_sI, xK_sL, xR_sL, xS_sL, xN_sL, xK_sR, xR_sR, xS_sR, xN_sR, xK_sA, xR_sA, xS_sA, xN_sA, Nat.reduceAdd, Nat.reduceLeDiff, sI_sA, I_sA', sA_sA, I_sA, I_sA', nI_add, mul_nI, bI_0, bI_1, h.k, h.r0, h.k0, h.r1, h.k1, h.r2, h.k2, h.r3, h.k3, h.r4, h.k4, h.r5, h.k5, h.r6, h.k6, h.r8, h.k8, h.r9, h.k9, h.r15, h.k15, h.r17, h.k17, h.r19, h.k19, h.r20, h.k20, h.r21, h.k21, h.r22, h.k22, h, Mo_sA, Mo_sL, ix_nI, cl_nI]; done) | omega | (simp only [I_sA]; assumption)) only [e138_0, e138_1, e138_4, e138_5, e138_8, e138_10, e138_13, e138_14, e138_17, e138_19, e138_22, e138_23, e138_26, e138_28, e138_31, e138_32, e138_35, e138_37, e138_40, e138_41, e138_42, e138_44, e138_47, e138_48, e138_49, e138_51, e138_54, e138_55, e138_58, e138_60, e138_63, e138_64, e138_66, e138_68, e138_71, e138_72, e138_74, e138_76, e138_79, e138_80, e138_81, e138_84, e138_85, e138_87, e138_89, e138_92, e138_93, e138_94, e138_96, e138_99, e138_100, e138_102, e138_104, e138_107, e138_108, e138_110, e138_112, e138_115, e138_116, e138_118, e138_120, e138_123, e138_124, e138_126, e138_128, e138_131, e138_132, e138_134, e138_137, e138_140, e138_141, e138_144, e138_145, e138_146, e138_147, e138_150, e138_153, e138_154, e138_155, e138_156, e138_159, e138_162, e138_163, e138_166, e138_169, e138_170, e138_171, e138_172, e138_173, e138_174, e138_177, e138_180, e138_181, e138_182, e138_183, e138_184, e138_187, e138_190, e138_191, e138_194, e138_197, e138_198, e138_199, e138_200, e138_203, e138_206, e138_207, e138_208, e138_209, e138_212, e138_213, e138_216, e138_217, am_k_some, va_rf_some, va_rf_none, tl_some, tl_none, am_clr_int, am_clr_ref, am_clr_none, am_clr_long, am_w_nil, am_w_int, am_w_ref, am_w_long, am_w_null, am_bb_0, am_bb_1, am_bb_bI, xK_sI, xR_sI, xS_sI, xN_sI, xK_sL, xR_sL, xS_sL, xN_sL, xK_sR, xR_sR, xS_sR, xN_sR, xK_sA, xR_sA, xS_sA, xN_sA, Nat.reduceAdd, Nat.reduceLeDiff, sI_sA, I_sA', sA_sA, I_sA, I_sA', nI_add, mul_nI, bI_0, bI_1, h.k, h.r0, h.k0, h.r1, h.k1, h.r2, h.k2, h.r3, h.k3, h.r4, h.k4, h.r5, h.k5, h.r6, h.k6, h.r8, h.k8, h.r9, h.k9, h.r15, h.k15, h.r17, h.k17, h.r19, h.k19, h.r20, h.k20, h.r21, h.k21, h.r22, h.k22, ix_nI, cl_nI, lt_nI, eq_nI, sub_nI, Nat.reduceEqDiff, Nat.one_ne_zero, Nat.not_lt_zero, ↓reduceIte, hlt]
