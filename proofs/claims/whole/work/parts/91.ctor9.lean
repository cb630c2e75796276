/-! CONSTRUCTORS, 9: the model's start, and both together -/
def flB (i : Nat) (g : Nat → Int32) : Nat → Int32 := flA (5300 + i) 5700 (flA (5700 + i) 6100 g)
theorem flB_0 (g : Nat → Int32) : flB 400 g = g := by
  unfold flB
  rw [flA_0 _ (by omega), flA_0 _ (by omega)]
theorem flB_s {i : Nat} (g : Nat → Int32) (h : i < 400) : flB (i + 1) (up1 (up1 g (5300 + i) (-1)) (5700 + i) (-1)) = flB i g := by
  funext y
  unfold flB flA up1
  by_cases a1 : 5300 + (i + 1) ≤ y ∧ y < 5700
  · rw [if_pos a1, if_pos (by omega)]
  rw [if_neg a1]
  by_cases a2 : 5700 + (i + 1) ≤ y ∧ y < 6100
  · rw [if_pos a2, if_neg (by omega), if_pos (by omega)]
  rw [if_neg a2]
  by_cases a3 : y = 5700 + i
  · rw [if_pos a3, if_neg (by omega), if_pos (by omega)]
  rw [if_neg a3]
  by_cases a4 : y = 5300 + i
  · rw [if_pos a4, if_pos (by omega)]
  rw [if_neg a4, if_neg (by omega), if_neg (by omega)]
theorem sp_138c {d o : Nat} : ∀ (n i : Nat) (m : am_M) (_ : i + n = 400) (_ : Mo m o), ev d 138 155 [some (.ref o), some (.int (nI i))] [] m = ev d 138 190 [some (.ref o), some (.int (nI 400))] [] (sA m (o + 1) (flB i (mI m (o + 1))))
  | 0, i, m, hi, h => by
    have hi' : i = 400 := by omega
    subst hi'
    rw [flB_0, sA_self]
    simp (disch := omega) only [e138_0, e138_1, e138_4, e138_5, e138_8, e138_10, e138_13, e138_14, e138_17, e138_19, e138_22, e138_23, e138_26, e138_28, e138_31, e138_32, e138_35, e138_37, e138_40, e138_41, e138_42, e138_44, e138_47, e138_48, e138_49, e138_51, e138_54, e138_55, e138_58, e138_60, e138_63, e138_64, e138_66, e138_68, e138_71, e138_72, e138_74, e138_76, e138_79, e138_80, e138_81, e138_84, e138_85, e138_87, e138_89, e138_92, e138_93, e138_94, e138_96, e138_99, e138_100, e138_102, e138_104, e138_107, e138_108, e138_110, e138_112, e138_115, e138_116, e138_118, e138_120, e138_123, e138_124, e138_126, e138_128, e138_131, e138_132, e138_133, e138_134, e138_137, e138_140, e138_141, e138_144, e138_145, e138_146, e138_147, e138_150, e138_153, e138_154, e138_155, e138_156, e138_159, e138_162, e138_163, e138_166, e138_169, e138_170, e138_171, e138_172, e138_173, e138_174, e138_177, e138_180, e138_181, e138_182, e138_183, e138_184, e138_187, e138_190, e138_191, e138_194, e138_197, e138_198, e138_199, e138_200, e138_203, e138_206, e138_207, e138_208, e138_209, e138_212, e138_213, e138_216, e138_217, am_k_some, va_rf_some, va_rf_none, tl_some, tl_none, am_clr_int, am_clr_ref, am_clr_none, am_clr_long, am_w_nil, am_w_int, am_w_ref, am_w_long, am_w_null, am_bb_0, am_bb_1, am_bb_bI, xK_sI, xR_sI, xS_sI, xN_sI, xK_sL, xR_sL, xS_sL, xN_sL, xK_sR, xR_sR, xS_sR, xN_sR, xK_sA, xR_sA, xS_sA, xN_sA, Nat.reduceAdd, Nat.reduceLeDiff, sI_sA, I_sA', sA_sA, I_sA, I_sA', nI_add, mul_nI, bI_0, bI_1, ix_nI, cl_nI, lt_nI, eq_nI, sub_nI, Nat.reduceEqDiff, Nat.one_ne_zero, Nat.not_lt_zero, ↓reduceIte, Nat.lt_irrefl]
  | n + 1, i, m, hi, h => by
    have hlt : i < 400 := by omega
    have g := sp_138c (d := d) (o := o) n (i + 1) (sA m (o + 1) (up1 (up1 (mI m (o + 1)) (5300 + i) (-1)) (5700 + i) (-1))) (by omega) (by rw [Mo_sA]; exact h)
    rw [I_sA, flB_s _ hlt, sA_sA] at g
    rw [← g, e138_155]
    simp (disch := first | (simp (disch := omega) only [am_k_some, va_rf_some, va_rf_none, tl_some, tl_none, am_clr_int, am_clr_ref, am_clr_none, am_clr_long, am_w_nil, am_w_int, am_w_ref, am_w_long, am_w_null, am_bb_0, am_bb_1, am_bb_bI, xK_sI, xR_sI, xS_sI, xN_sI, xK_sL, xR_sL, xS_sL, xN_sL, xK_sR, xR_sR, xS_sR, xN_sR, xK_sA, xR_sA, xS_sA, xN_sA, Nat.reduceAdd, Nat.reduceLeDiff, sI_sA, I_sA', sA_sA, I_sA, I_sA', nI_add, mul_nI, bI_0, bI_1, h.k, h.r0, h.k0, h.r1, h.k1, h.r2, h.k2, h.r3, h.k3, h.r4, h.k4, h.r5, h.k5, h.r6, h.k6, h.r8, h.k8, h.r9, h.k9, h.r15, h.k15, h.r17, h.k17, h.r19, h.k19, h.r20, h.k20, h.r21, h.k21, h.r22, h.k22, h, Mo_sA, Mo_sL, ix_nI, cl_nI]; done) | omega | (simp only [I_sA]; assumption)) only [e138_0, e138_1, e138_4, e138_5, e138_8, e138_10, e138_13, e138_14, e138_17, e138_19, e138_22, e138_23, e138_26, e138_28, e138_31, e138_32, e138_35, e138_37, e138_40, e138_41, e138_42, e138_44, e138_47, e138_48, e138_49, e138_51, e138_54, e138_55, e138_58, e138_60, e138_63, e138_64, e138_66, e138_68, e138_71, e138_72, e138_74, e138_76, e138_79, e138_80, e138_81, e138_84, e138_85, e138_87, e138_89, e138_92, e138_93, e138_94, e138_96, e138_99, e138_100, e138_102, e138_104, e138_107, e138_108, e138_110, e138_112, e138_115, e138_116, e138_118, e138_120, e138_123, e138_124, e138_126, e138_128, e138_131, e138_132, e138_133, e138_134, e138_137, e138_140, e138_141, e138_144, e138_145, e138_146, e138_147, e138_150, e138_153, e138_154, e138_156, e138_159, e138_162, e138_163, e138_166, e138_169, e138_170, e138_171, e138_172, e138_173, e138_174, e138_177, e138_180, e138_181, e138_182, e138_183, e138_184, e138_187, e138_190, e138_191, e138_194, e138_197, e138_198, e138_199, e138_200, e138_203, e138_206, e138_207, e138_208, e138_209, e138_212, e138_213, e138_216, e138_217, am_k_some, va_rf_some, va_rf_none, tl_some, tl_none, am_clr_int, am_clr_ref, am_clr_none, am_clr_long, am_w_nil, am_w_int, am_w_ref, am_w_long, am_w_null, am_bb_0, am_bb_1, am_bb_bI, xK_sI, xR_sI, xS_sI, xN_sI, xK_sL, xR_sL, xS_sL, xN_sL, xK_sR, xR_sR, xS_sR, xN_sR, xK_sA, xR_sA, xS_sA, xN_sA, Nat.reduceAdd, Nat.reduceLeDiff, sI_sA, I_sA', sA_sA, I_sA, I_sA', nI_add, mul_nI, bI_0, bI_1, h.k, h.r0, h.k0, h.r1, h.k1, h.r2, h.k2, h.r3, h.k3, h.r4, h.k4, h.r5, h.k5, h.r6, h.k6, h.r8, h.k8, h.r9, h.k9, h.r15, h.k15, h.r17, h.k17, h.r19, h.k19, h.r20, h.k20, h.r21, h.k21, h.r22, h.k22, ix_nI, cl_nI, lt_nI, eq_nI, sub_nI, Nat.reduceEqDiff, Nat.one_ne_zero, Nat.not_lt_zero, ↓reduceIte, hlt]
/-- the array of a new object -/
def S0 : Nat → Int32 := up1 (up1 (flB 0 (flA 0 800 (fun _ => 0))) 6503 1) 6502 (-1)
theorem s0_a {y : Nat} (h : y < 800) : S0 y = -1 := by
  simp only [S0, flB, flA, up1]
  rw [if_neg (by omega), if_neg (by omega), if_neg (by omega), if_neg (by omega), if_pos (by omega)]
theorem s0_b {y : Nat} (h : 5300 ≤ y) (h' : y < 6100) : S0 y = -1 := by
  simp only [S0, flB, flA, up1]
  rw [if_neg (by omega), if_neg (by omega)]
  by_cases q : y < 5700
  · rw [if_pos (by omega)]
  · rw [if_neg (by omega), if_pos (by omega)]
theorem s0_c {y : Nat} (h : 800 ≤ y) (h' : y < 5300) : S0 y = 0 := by
  simp only [S0, flB, flA, up1]
  rw [if_neg (by omega), if_neg (by omega), if_neg (by omega), if_neg (by omega), if_neg (by omega)]
theorem s0_d {y : Nat} (h : 6100 ≤ y) (h' : y ≠ 6502) (h'' : y ≠ 6503) : S0 y = 0 := by
  simp only [S0, flB, flA, up1]
  rw [if_neg (by omega), if_neg (by omega), if_neg (by omega), if_neg (by omega), if_neg (by omega)]
theorem s0_e : S0 6503 = 1 ∧ S0 6502 = -1 := by
  unfold S0
  rw [up1_ne (by omega), up1_eq, up1_eq]
  exact ⟨rfl, rfl⟩
/-- a model as it is made -/
def Md0 (m : am_M) (o : Nat) : Prop := Mo m o ∧ mI m (o + 1) = S0 ∧ mI m (o + 2) = (fun _ => 0) ∧ mI m (o + 3) = (fun _ => 0) ∧ mI m (o + 5) = (fun _ => 0) ∧ mI m (o + 7) = (fun _ => 0) ∧ mI m (o + 8) = (fun _ => 0) ∧ mI m (o + 9) = (fun _ => 0) ∧ mL m (o + 6) 0 = 1000 ∧ mL m (o + 6) 1 = 0 ∧ mL m (o + 6) 2 = 0 ∧ mI m o = up1 (fun _ => 0) 14 (-1) ∧ mL m o = (fun _ => 0)
theorem sp_138d {d o : Nat} {m : am_M} (h : Mo m o) : ev d 138 190 [some (.ref o), some (.int (nI 400))] [] m = some (none, sL (sA m (o + 1) (up1 (up1 (mI m (o + 1)) 6503 1) 6502 (-1))) (o + 6) 0 1000) := by
  have e1 : nI 1 = 1 := rfl
  simp (disch := first | (simp (disch := omega) only [am_k_some, va_rf_some, va_rf_none, tl_some, tl_none, am_clr_int, am_clr_ref, am_clr_none, am_clr_long, am_w_nil, am_w_int, am_w_ref, am_w_long, am_w_null, am_bb_0, am_bb_1, am_bb_bI, xK_sI, xR_sI, xS_sI, xN_sI, xK_sL, xR_sL, xS_sL, xN_sL, xK_sR, xR_sR, xS_sR, xN_sR, xK_sA, xR_sA, xS_sA, xN_sA, Nat.reduceAdd, Nat.reduceLeDiff, sI_sA, I_sA', sA_sA, I_sA, I_sA', nI_add, mul_nI, bI_0, bI_1, h.k, h.r0, h.k0, h.r1, h.k1, h.r2, h.k2, h.r3, h.k3, h.r4, h.k4, h.r5, h.k5, h.r6, h.k6, h.r8, h.k8, h.r9, h.k9, h.r15, h.k15, h.r17, h.k17, h.r19, h.k19, h.r20, h.k20, h.r21, h.k21, h.r22, h.k22, h, Mo_sA, Mo_sL, ix_nI, cl_nI]; done) | omega | (simp only [I_sA]; assumption)) only [e138_0, e138_1, e138_4, e138_5, e138_8, e138_10, e138_13, e138_14, e138_17, e138_19, e138_22, e138_23, e138_26, e138_28, e138_31, e138_32, e138_35, e138_37, e138_40, e138_41, e138_42, e138_44, e138_47, e138_48, e138_49, e138_51, e138_54, e138_55, e138_58, e138_60, e138_63, e138_64, e138_66, e138_68, e138_71, e138_72, e138_74, e138_76, e138_79, e138_80, e138_81, e138_84, e138_85, e138_87, e138_89, e138_92, e138_93, e138_94, e138_96, e138_99, e138_100, e138_102, e138_104, e138_107, e138_108, e138_110, e138_112, e138_115, e138_116, e138_118, e138_120, e138_123, e138_124, e138_126, e138_128, e138_131, e138_132, e138_133, e138_134, e138_137, e138_140, e138_141, e138_144, e138_145, e138_146, e138_147, e138_150, e138_153, e138_154, e138_155, e138_156, e138_159, e138_162, e138_163, e138_166, e138_169, e138_170, e138_171, e138_172, e138_173, e138_174, e138_177, e138_180, e138_181, e138_182, e138_183, e138_184, e138_187, e138_190, e138_191, e138_194, e138_197, e138_198, e138_199, e138_200, e138_203, e138_206, e138_207, e138_208, e138_209, e138_212, e138_213, e138_216, e138_217, am_k_some, va_rf_some, va_rf_none, tl_some, tl_none, am_clr_int, am_clr_ref, am_clr_none, am_clr_long, am_w_nil, am_w_int, am_w_ref, am_w_long, am_w_null, am_bb_0, am_bb_1, am_bb_bI, xK_sI, xR_sI, xS_sI, xN_sI, xK_sL, xR_sL, xS_sL, xN_sL, xK_sR, xR_sR, xS_sR, xN_sR, xK_sA, xR_sA, xS_sA, xN_sA, Nat.reduceAdd, Nat.reduceLeDiff, sI_sA, I_sA', sA_sA, I_sA, I_sA', nI_add, mul_nI, bI_0, bI_1, h.k, h.r0, h.k0, h.r1, h.k1, h.r2, h.k2, h.r3, h.k3, h.r4, h.k4, h.r5, h.k5, h.r6, h.k6, h.r8, h.k8, h.r9, h.k9, h.r15, h.k15, h.r17, h.k17, h.r19, h.k19, h.r20, h.k20, h.r21, h.k21, h.r22, h.k22, ix_nI, cl_nI, lt_nI, eq_nI, sub_nI, Nat.reduceEqDiff, Nat.one_ne_zero, Nat.not_lt_zero, ↓reduceIte, Mo_sA, e1]
theorem sp_138 {d o : Nat} {m : am_M} (hK : mK m o = (1, 10, 0)) (hS : mS m = o + 1) (hz : mI m o = (fun _ => 0)) (hl : mL m o = (fun _ => 0)) : ∃ m', cal d 138 [.ref o] m = some (none, m') ∧ mS m' = o + 16 ∧ mN m' = mN m + 26918 ∧ Ke o m m' ∧ Md0 m' o := by
  obtain ⟨c, X, C, ic⟩ := sp_138a (d := d) hK hS
  have M := cu_mo C hK
  obtain ⟨C1, C2, C3, C4, C5, C6, C7⟩ := C
  unfold MoL at C7
  have p1 := C7 (0, o + 1, (2, 0, 6508)) (by simp)
  have p2 := C7 (1, o + 2, (2, 0, 6508)) (by simp)
  have p3 := C7 (2, o + 3, (2, 0, 6508)) (by simp)
  have p5 := C7 (4, o + 5, (3, 0, 2)) (by simp)
  have p6 := C7 (5, o + 6, (4, 0, 4)) (by simp)
  have p7 := C7 (6, o + 7, (2, 0, 800)) (by simp)
  have p8 := C7 (8, o + 8, (2, 0, 40)) (by simp)
  have p9 := C7 (9, o + 9, (2, 0, 7)) (by simp)
  have Y := sp_138b (d := d) (o := o) 800 0 c rfl M
  have M1 : Mo (sA c (o + 1) (flA 0 800 (mI c (o + 1)))) o := by rw [Mo_sA]; exact M
  have Z := sp_138c (d := d) (o := o) 400 0 _ rfl M1
  rw [sA_sA, I_sA] at Z
  have M2 : Mo (sA c (o + 1) (flB 0 (flA 0 800 (mI c (o + 1))))) o := by rw [Mo_sA]; exact M
  have T := sp_138d (d := d) M2
  rw [sA_sA, I_sA, p1.2.1.2.1] at T
  have es : up1 (up1 (flB 0 (flA 0 800 (fun _ => 0))) 6503 1) 6502 (-1) = S0 := rfl
  rw [es] at T
  have X1 : ev d 138 131 [some (.ref o), none] [] c = ev d 138 133 [some (.ref o), some (.int (nI 0))] [] c := by
    simp only [e138_131, e138_132, am_k_some, va_rf_some, va_rf_none, tl_some, tl_none, am_clr_int, am_clr_ref, am_clr_none, am_clr_long, am_w_nil, am_w_int, am_w_ref, am_w_long, am_w_null, am_bb_0, am_bb_1, am_bb_bI, xK_sI, xR_sI, xS_sI, xN_sI, xK_sL, xR_sL, xS_sL, xN_sL, xK_sR, xR_sR, xS_sR, xN_sR, xK_sA, xR_sA, xS_sA, xN_sA, Nat.reduceAdd, Nat.reduceLeDiff, sI_sA, I_sA', sA_sA, I_sA, I_sA', nI_add, mul_nI, bI_0, bI_1]
  have X2 : ∀ m1 x, ev d 138 153 [some (.ref o), x] [] m1 = ev d 138 155 [some (.ref o), some (.int (nI 0))] [] m1 := fun m1 x => by
    simp only [e138_153, e138_154, am_k_some, va_rf_some, va_rf_none, tl_some, tl_none, am_clr_int, am_clr_ref, am_clr_none, am_clr_long, am_w_nil, am_w_int, am_w_ref, am_w_long, am_w_null, am_bb_0, am_bb_1, am_bb_bI, xK_sI, xR_sI, xS_sI, xN_sI, xK_sL, xR_sL, xS_sL, xN_sL, xK_sR, xR_sR, xS_sR, xN_sR, xK_sA, xR_sA, xS_sA, xN_sA, Nat.reduceAdd, Nat.reduceLeDiff, sI_sA, I_sA', sA_sA, I_sA, I_sA', nI_add, mul_nI, bI_0, bI_1]
  refine ⟨sL (sA c (o + 1) S0) (o + 6) 0 1000, ?_, ?_, ?_, ?_, ?_⟩
  · rw [X, X1, Y, X2, Z, ← T]
    rw [p1.2.1.2.1]
  · rw [xS_sL, xS_sA]; exact C1
  · rw [xN_sL, xN_sA]; exact C2
  · refine C3.trans (fun x hx => ⟨by rw [xK_sL, xK_sA], by rw [mI_sL, I_sA' _ _ (by omega)], ?_, ?_⟩)
    · funext y; rw [xL_sL, if_neg (fun q => by omega), mL_sA]
    · funext y; rw [xR_sL, xR_sA]
  · have i : ∀ x, x ≠ o + 1 → mI (sL (sA c (o + 1) S0) (o + 6) 0 1000) x = mI c x := fun x hx => by rw [mI_sL, I_sA' _ _ hx]
    refine ⟨by rw [Mo_sL, Mo_sA]; exact M, by rw [mI_sL, I_sA], ?_, ?_, ?_, ?_, ?_, ?_, ?_, ?_, ?_, ?_, ?_⟩
    · rw [i _ (by omega)]; exact p2.2.1.2.1
    · rw [i _ (by omega)]; exact p3.2.1.2.1
    · rw [i _ (by omega)]; exact p5.2.1.2.1
    · rw [i _ (by omega)]; exact p7.2.1.2.1
    · rw [i _ (by omega)]; exact p8.2.1.2.1
    · rw [i _ (by omega)]; exact p9.2.1.2.1
    · rw [xL_sL, if_pos ⟨rfl, rfl⟩]
    · rw [xL_sL, if_neg (fun q => by omega), mL_sA, p6.2.1.2.2]
    · rw [xL_sL, if_neg (fun q => by omega), mL_sA, p6.2.1.2.2]
    · rw [i _ (by omega), ic, hz]
    · funext y; rw [xL_sL, if_neg (fun q => by omega), mL_sA, C5, hl]
theorem wf_S0 : Wf S0 := by
  have a : ∀ i, i < 20 → S0 (800 + i) = 0 := fun i hi => s0_c (by omega) (by omega)
  have b : ∀ i, i < 20 → S0 (820 + i) = 0 := fun i hi => s0_c (by omega) (by omega)
  have n : nm S0 = 0 := by unfold nm; rw [s0_d (by omega) (by omega) (by omega)]; rfl
  have k : ak S0 = 0 := by unfold ak; rw [s0_d (by omega) (by omega) (by omega)]; rfl
  have q : ∀ y, 6100 ≤ y → y ≠ 6502 → y ≠ 6503 → S0 y = 0 := fun y h1 h2 h3 => s0_d h1 h2 h3
  have z1 : ¬ S0 6501 = nI 1 := by rw [q _ (by omega) (by omega) (by omega)]; decide
  refine ⟨fun i hi => ?_, ⟨?_, by omega⟩, fun i hi => Or.inl ?_, fun l hl => by omega, fun l hl => by omega, fun i p hi hp => Or.inl (s0_a (by omega)), ⟨⟨1, s0_e.1, by omega, by omega⟩, Or.inl ⟨q _ (by omega) (by omega) (by omega), s0_e.2⟩⟩, ⟨?_, by omega⟩, ?_, ⟨?_, ?_⟩, ⟨?_, ?_⟩, fun h => absurd h z1, fun h => absurd h z1⟩
  · have e : ln S0 i = 0 := by unfold ln; rw [b i hi]; rfl
    rw [e, b i hi]
    exact ⟨rfl, by omega⟩
  · rw [n, q _ (by omega) (by omega) (by omega)]; rfl
  · rw [a i hi]; rfl
  · rw [k, q _ (by omega) (by omega) (by omega)]; rfl
  · rw [k]; trivial
  · rw [q _ (by omega) (by omega) (by omega)]; rfl
  · rw [q _ (by omega) (by omega) (by omega)]; decide
  · rw [q _ (by omega) (by omega) (by omega)]; rfl
  · rw [q _ (by omega) (by omega) (by omega)]; decide
theorem sh_0 {m : am_M} {a : Nat} (h : Sh0 m a) : ShV m a S0 1000 := by
  obtain ⟨-, z, h6, h7, h9, h8⟩ := h
  have n : nm S0 = 0 := by unfold nm; rw [s0_d (by omega) (by omega) (by omega)]; rfl
  have k : ak S0 = 0 := by unfold ak; rw [s0_d (by omega) (by omega) (by omega)]; rfl
  have q : ∀ y, 6100 ≤ y → y ≠ 6502 → y ≠ 6503 → S0 y = 0 := fun y h1 h2 h3 => s0_d h1 h2 h3
  refine ⟨fun i hi => ?_, ⟨?_, fun l hl => by omega⟩, ⟨?_, 0, by omega, ?_, fun j hj => by omega⟩, ⟨0, by omega, ?_, fun j hj => by omega, fun l hl => ?_⟩, ⟨?_, fun j hj => ?_⟩, ⟨?_, fun j hj => ?_⟩, ?_, ?_, h8, ?_⟩
  · have e : S0 (800 + i) = 0 := s0_c (by omega) (by omega)
    have e1 : ¬ S0 (800 + i) = nI 1 := by rw [e]; decide
    have e2 : lenS S0 i = 0 := lenS_n e1
    refine ⟨?_, fun x => absurd x e1, fun p hp => by omega, ?_, ?_⟩
    · rw [e2, z _ (by omega) (by omega)]; rfl
    · unfold inS; rw [n, z _ (by omega) (by omega)]; rfl
    · unfold chN; rw [e2, z _ (by omega) (by omega)]; rfl
  · rw [z _ (by omega) (by omega), q _ (by omega) (by omega) (by omega)]
  · rw [z _ (by omega) (by omega), q _ (by omega) (by omega) (by omega)]
  · rw [z _ (by omega) (by omega)]; rfl
  · rw [z _ (by omega) (by omega)]; rfl
  · show S0 (5300 + l) = -1 ∧ S0 (5700 + l) = -1
    exact ⟨s0_b (by omega) (by omega), s0_b (by omega) (by omega)⟩
  · rw [z _ (by omega) (by omega), q _ (by omega) (by omega) (by omega)]
  · rw [q _ (by omega) (by omega) (by omega)] at hj; exact absurd hj (Nat.not_lt_zero j)
  · rw [z _ (by omega) (by omega), q _ (by omega) (by omega) (by omega)]
  · rw [q _ (by omega) (by omega) (by omega)] at hj; exact absurd hj (Nat.not_lt_zero j)
  · rw [h6, q _ (by omega) (by omega) (by omega)]
  · rw [h7, s0_e.1]
  · rw [h9, s0_e.2]
/-- both made: the start -/
theorem good_0 {m m1 : am_M} {B : Nat} (h : Fd0 m B) (g : Ke (B + 82) m m1) (h1 : Md0 m1 (B + 82)) (hS : mS m1 = B + 98) (hN : mN m1 ≤ 40000) : Good B m1 := by
  obtain ⟨f, s, a1, a2, a3, a4, a5, a6, a7⟩ := h
  have e : ∀ x, B ≤ x → x < B + 82 → Sa x m m1 := fun x x1 x2 => g x x2
  have s1 : Sh0 m1 (B + 1) := bx_sh _ _ _ (fun x x1 x2 => e x (by omega) (by omega)) s
  obtain ⟨w0, w1, w2, w3, w4, w5, w6, w7, w8, w9, w10, w11, w12⟩ := h1
  have f1 : FdK m1 B := by
    obtain ⟨f0, f1, f2, f3, f4, f5, f6, f7, f8, f9, f10, f11, f12, f13, f14, f15, f16, f17⟩ := f
    have r : ∀ i, mR m1 B i = mR m B i := fun i => by rw [(e B (by omega) (by omega)).2.2.2]
    have k : ∀ x, B ≤ x → x < B + 82 → mK m1 x = mK m x := fun x x1 x2 => (e x x1 x2).1
    have pn : Pn0 (B + 1) m1 (B + 67) := bx_pn _ _ _ (fun x x1 x2 => e x (by omega) (by omega)) ⟨f4, f5⟩
    refine ⟨by rw [k _ (by omega) (by omega)]; exact f0, by rw [r]; exact f1, s1.1, by rw [r]; exact f3, pn.1, pn.2, by rw [r]; exact f6, by rw [k _ (by omega) (by omega)]; exact f7, by rw [r]; exact f8, by rw [k _ (by omega) (by omega)]; exact f9, by rw [r]; exact f10, by rw [k _ (by omega) (by omega)]; exact f11, by rw [r]; exact f12, by rw [k _ (by omega) (by omega)]; exact f13, by rw [r]; exact f14, by rw [k _ (by omega) (by omega)]; exact f15, by rw [r]; exact f16, by rw [k _ (by omega) (by omega)]; exact f17⟩
  refine ⟨(S0, 1000, (fun _ => 0), 0, (fun _ => 0), (fun _ => 0), 0, (0, 0, 0, -1), fun _ => (false, (fun _ => 0), 0)), ⟨f1, sh_0 s1, ?_, ?_, ?_, ?_, ?_, ?_, fun _ => none, ?_⟩, ⟨w0, w1, w8, w6, ?_, w5, w7, ?_, ?_, fun k hk => ?_⟩, wf_S0, ⟨by decide, by decide⟩, by show 0 ≤ 200; omega, fun k hk q => ?_⟩
  · intro j hj; rw [(e _ (by omega) (by omega)).2.1, a1]; rfl
  · rw [(e _ (by omega) (by omega)).2.1, a4]; rfl
  · intro j hj; rw [(e _ (by omega) (by omega)).2.1, a2]; rfl
  · intro j hj; rw [(e _ (by omega) (by omega)).2.1, a3]; rfl
  · rw [(e _ (by omega) (by omega)).2.1, a4]; rfl
  · obtain ⟨-, q0, q1, q2, q3⟩ := a5
    have l := (e (B + 77) (by omega) (by omega)).2.2.1
    refine ⟨by rw [l]; exact q0, by rw [l]; exact q1, by rw [l]; exact q2, by rw [l]; exact q3⟩
  · refine ⟨fun k hk => ?_, ?_, by rw [hS]; rfl, by rw [show cnI (fun _ => none) = 0 from rfl]; omega, fun k j hk hj => ?_, fun k k' j hk hk' hj hj' => ?_, fun k hk => Or.inl ⟨rfl, rfl⟩⟩
    · rw [(e (B + 76) (by omega) (by omega)).2.2.2, a6]; rfl
    · rw [(e B (by omega) (by omega)).2.2.2, a7]; rfl
    · cases hj
    · cases hj
  · rw [w11]; rfl
  · rw [w11]; rfl
  · rw [w11, w12]; rfl
  · have hk' : k = 0 ∨ k = 1 := by omega
    rcases hk' with rfl | rfl
    · exact ⟨by rw [w4]; rfl, w2, w9⟩
    · exact ⟨by rw [w4]; rfl, w3, w10⟩
  · cases q
