/-! the model's leave and arrive -/
theorem sp_201_loop {d M i b : Nat} {e g : Int32} {m : am_M} {S : Nat → Int32} {MV LF : List Nat} (h : Mo m M) (hN : NmOk S) (hL : LnOk S) (hC : WfC S) (hi : i < 20) (he : okE e) (hb : b < ln S i) (hG : GdL S g i 0 e MV LF) : ∀ r k (x7 : Option Value), k + r = b + 1 →
    ev (d + 3) 201 15 [some (.ref M), some (.int (nI i)), some (.int e), some (.int g), some (.int (nI b)), some (.int (pvS S i (ln S i) e k)), some (.int (nI k)), x7] [] (sA m (M + 1) (rwS S (MV ++ mvL S i e g k) (LF ++ lvL S i e g k))) = some (none, sA m (M + 1) (rwS S (MV ++ mvL S i e g (b + 1)) (LF ++ lvL S i e g (b + 1)))) := by
  obtain ⟨l1, l2⟩ := hL i hi
  have n2 := hN.2
  intro r
  induction r with
  | zero =>
    intro k x7 hk
    have hk' : k = b + 1 := by omega
    subst hk'
    have hnl : b < b + 1 := by omega
    rw [e201_15]
    simp (disch := first | (simp (disch := omega) only [am_k_some, va_rf_some, va_rf_none, tl_some, tl_none, am_clr_int, am_clr_ref, am_clr_none, am_clr_long, am_w_nil, am_w_int, am_w_ref, am_w_long, am_w_null, am_bb_0, am_bb_1, am_bb_bI, xK_sI, xR_sI, xS_sI, xN_sI, xK_sL, xR_sL, xS_sL, xN_sL, xK_sR, xR_sR, xS_sR, xN_sR, xK_sA, xR_sA, xS_sA, xN_sA, Nat.reduceAdd, Nat.reduceLeDiff, sI_sA, I_sA', sA_sA, I_sA, I_sA', nI_add, mul_nI, bI_0, bI_1, h.k, h.r0, h.k0, h.r1, h.k1, h.r2, h.k2, h.r3, h.k3, h.r4, h.k4, h.r5, h.k5, h.r6, h.k6, h.r8, h.k8, h.r9, h.k9, h.r15, h.k15, h.r17, h.k17, h.r19, h.k19, h.r20, h.k20, h.r21, h.k21, h.r22, h.k22, h, Mo_sA, Mo_sL, ix_nI, cl_nI]; done) | omega | (simp only [I_sA]; assumption)) only [e201_0, e201_1, e201_2, e201_3, e201_4, e201_7, e201_9, e201_10, e201_12, e201_13, e201_17, e201_19, e201_22, e201_23, e201_24, e201_25, e201_26, e201_27, e201_29, e201_32, e201_35, e201_37, e201_39, e201_42, e201_44, e201_46, e201_49, e201_50, e201_52, e201_53, e201_56, e201_57, e201_60, e201_61, e201_64, e201_67, e201_68, e201_71, e201_74, e201_75, e201_76, e201_78, e201_79, e201_80, e201_83, e201_86, e201_87, e201_88, e201_89, e201_90, e201_91, e201_94, e201_95, e201_98, e201_101, e201_102, e201_105, e201_108, e201_109, e201_110, e201_112, e201_113, e201_114, e201_117, e201_120, e201_121, e201_122, e201_123, e201_124, e201_125, e201_127, e201_129, e201_132, e201_135, am_k_some, va_rf_some, va_rf_none, tl_some, tl_none, am_clr_int, am_clr_ref, am_clr_none, am_clr_long, am_w_nil, am_w_int, am_w_ref, am_w_long, am_w_null, am_bb_0, am_bb_1, am_bb_bI, xK_sI, xR_sI, xS_sI, xN_sI, xK_sL, xR_sL, xS_sL, xN_sL, xK_sR, xR_sR, xS_sR, xN_sR, xK_sA, xR_sA, xS_sA, xN_sA, Nat.reduceAdd, Nat.reduceLeDiff, sI_sA, I_sA', sA_sA, I_sA, I_sA', nI_add, mul_nI, bI_0, bI_1, ix_nI, cl_nI, lt_nI, eq_nI, sub_nI, Nat.reduceEqDiff, Nat.one_ne_zero, Nat.not_lt_zero, ↓reduceIte, hnl]
  | succ r ih =>
    intro k x7 hk
    have hnl : ¬ b < k := by omega
    have hkl : k < ln S i := by omega
    have ih := fun x7 => ih (k + 1) x7 (by omega)
    have G := hG.run hN hL hC hi he k (by omega)
    have G' := G.step hN hL hC hi he hkl
    have gm := G.m hN
    have gl := G.l hN
    have gm' := G'.m hN
    have gl' := G'.l hN
    have al := rw_agl (S := S) gm gl
    rw [mvL, lvL, ← List.append_assoc, ← List.append_assoc] at ih
    generalize hA : MV ++ mvL S i e g k = A at *
    generalize hB : LF ++ lvL S i e g k = B at *
    have hpv : pvS S i (ln S i) e (k + 1) = dpS S i (ln S i) e k := rfl
    rw [hpv] at ih
    have dk := fun d => sp_154k (d := d) (e := e) (m := sA m (M + 1) (rwS S A B)) (h.sA _ _) hi (by rw [I_sA, al.1 _ (by omega)]; exact l1) l2 hkl
    have hbp : plK S i e k < 40 := by unfold plK; split <;> omega
    have spt := fun d => sp_143 (d := d) (m := sA m (M + 1) (rwS S A B)) (h.sA _ _) hi hbp
    rw [I_sA, al.1 _ (by omega), ← dp_pl S i e k] at spt
    have hpl : (if e = nI 0 then k else ln S i - 1 - k) = plK S i e k := rfl
    rw [hpl] at dk
    rw [e201_15]
    have hnw : nwB S i e k = (!decide (dpS S i (ln S i) e k < nI 0) && !decide (dpS S i (ln S i) e k = pvS S i (ln S i) e k)) := rfl
    rcases at_k (e := e) hN hL hC hi hkl with hx | ⟨l, q, a1, a2, a3, a4, a5, a6⟩
    · rw [decide_eq_true hx, Bool.not_true, Bool.false_and] at hnw
      rw [hnw, if_neg (fun q => by cases q.1), if_neg (fun q => by cases q.1), List.append_nil, List.append_nil] at ih
      simp (disch := first | (simp (disch := omega) only [am_k_some, va_rf_some, va_rf_none, tl_some, tl_none, am_clr_int, am_clr_ref, am_clr_none, am_clr_long, am_w_nil, am_w_int, am_w_ref, am_w_long, am_w_null, am_bb_0, am_bb_1, am_bb_bI, xK_sI, xR_sI, xS_sI, xN_sI, xK_sL, xR_sL, xS_sL, xN_sL, xK_sR, xR_sR, xS_sR, xN_sR, xK_sA, xR_sA, xS_sA, xN_sA, Nat.reduceAdd, Nat.reduceLeDiff, sI_sA, I_sA', sA_sA, I_sA, I_sA', nI_add, mul_nI, bI_0, bI_1, h.k, h.r0, h.k0, h.r1, h.k1, h.r2, h.k2, h.r3, h.k3, h.r4, h.k4, h.r5, h.k5, h.r6, h.k6, h.r8, h.k8, h.r9, h.k9, h.r15, h.k15, h.r17, h.k17, h.r19, h.k19, h.r20, h.k20, h.r21, h.k21, h.r22, h.k22, h, Mo_sA, Mo_sL, ix_nI, cl_nI]; done) | omega | (simp only [I_sA]; assumption)) only [e201_0, e201_1, e201_2, e201_3, e201_4, e201_7, e201_9, e201_10, e201_12, e201_13, e201_17, e201_19, e201_22, e201_23, e201_24, e201_25, e201_26, e201_27, e201_29, e201_32, e201_35, e201_37, e201_39, e201_42, e201_44, e201_46, e201_49, e201_50, e201_52, e201_53, e201_56, e201_57, e201_60, e201_61, e201_64, e201_67, e201_68, e201_71, e201_74, e201_75, e201_76, e201_78, e201_79, e201_80, e201_83, e201_86, e201_87, e201_88, e201_89, e201_90, e201_91, e201_94, e201_95, e201_98, e201_101, e201_102, e201_105, e201_108, e201_109, e201_110, e201_112, e201_113, e201_114, e201_117, e201_120, e201_121, e201_122, e201_123, e201_124, e201_125, e201_127, e201_129, e201_132, e201_135, am_k_some, va_rf_some, va_rf_none, tl_some, tl_none, am_clr_int, am_clr_ref, am_clr_none, am_clr_long, am_w_nil, am_w_int, am_w_ref, am_w_long, am_w_null, am_bb_0, am_bb_1, am_bb_bI, xK_sI, xR_sI, xS_sI, xN_sI, xK_sL, xR_sL, xS_sL, xN_sL, xK_sR, xR_sR, xS_sR, xN_sR, xK_sA, xR_sA, xS_sA, xN_sA, Nat.reduceAdd, Nat.reduceLeDiff, sI_sA, I_sA', sA_sA, I_sA, I_sA', nI_add, mul_nI, bI_0, bI_1, ix_nI, cl_nI, lt_nI, eq_nI, sub_nI, Nat.reduceEqDiff, Nat.one_ne_zero, Nat.not_lt_zero, ↓reduceIte, hnl, dk, spt, hx, ih]
    · have z : ¬ nI l < nI 0 := by rw [lt_nI (by omega) (by omega)]; omega
      have z' : ¬ l < 0 := by omega
      rw [a2] at spt ih hnw
      rw [a3] at ih G' gm' gl'
      rw [decide_eq_false z, Bool.not_false, Bool.true_and] at hnw
      have get := fun d => sp_145 (d := d) (m := sA m (M + 1) (rwS S A B)) (l := l) (k := 3) (h.sA _ _) (by omega) (by omega)
      rw [I_sA, al.1 _ (by omega), show 900 + 400 * 3 + l = 2100 + l by omega] at get
      by_cases hp : nI l = pvS S i (ln S i) e k
      · rw [decide_eq_true hp, Bool.not_true] at hnw
        rw [hnw, if_neg (fun q => by cases q.1), if_neg (fun q => by cases q.1), List.append_nil, List.append_nil] at ih
        generalize pvS S i (ln S i) e k = P at *
        subst hp
        simp (disch := first | (simp (disch := omega) only [am_k_some, va_rf_some, va_rf_none, tl_some, tl_none, am_clr_int, am_clr_ref, am_clr_none, am_clr_long, am_w_nil, am_w_int, am_w_ref, am_w_long, am_w_null, am_bb_0, am_bb_1, am_bb_bI, xK_sI, xR_sI, xS_sI, xN_sI, xK_sL, xR_sL, xS_sL, xN_sL, xK_sR, xR_sR, xS_sR, xN_sR, xK_sA, xR_sA, xS_sA, xN_sA, Nat.reduceAdd, Nat.reduceLeDiff, sI_sA, I_sA', sA_sA, I_sA, I_sA', nI_add, mul_nI, bI_0, bI_1, h.k, h.r0, h.k0, h.r1, h.k1, h.r2, h.k2, h.r3, h.k3, h.r4, h.k4, h.r5, h.k5, h.r6, h.k6, h.r8, h.k8, h.r9, h.k9, h.r15, h.k15, h.r17, h.k17, h.r19, h.k19, h.r20, h.k20, h.r21, h.k21, h.r22, h.k22, h, Mo_sA, Mo_sL, ix_nI, cl_nI]; done) | omega | (simp only [I_sA]; assumption)) only [e201_0, e201_1, e201_2, e201_3, e201_4, e201_7, e201_9, e201_10, e201_12, e201_13, e201_17, e201_19, e201_22, e201_23, e201_24, e201_25, e201_26, e201_27, e201_29, e201_32, e201_35, e201_37, e201_39, e201_42, e201_44, e201_46, e201_49, e201_50, e201_52, e201_53, e201_56, e201_57, e201_60, e201_61, e201_64, e201_67, e201_68, e201_71, e201_74, e201_75, e201_76, e201_78, e201_79, e201_80, e201_83, e201_86, e201_87, e201_88, e201_89, e201_90, e201_91, e201_94, e201_95, e201_98, e201_101, e201_102, e201_105, e201_108, e201_109, e201_110, e201_112, e201_113, e201_114, e201_117, e201_120, e201_121, e201_122, e201_123, e201_124, e201_125, e201_127, e201_129, e201_132, e201_135, am_k_some, va_rf_some, va_rf_none, tl_some, tl_none, am_clr_int, am_clr_ref, am_clr_none, am_clr_long, am_w_nil, am_w_int, am_w_ref, am_w_long, am_w_null, am_bb_0, am_bb_1, am_bb_bI, xK_sI, xR_sI, xS_sI, xN_sI, xK_sL, xR_sL, xS_sL, xN_sL, xK_sR, xR_sR, xS_sR, xN_sR, xK_sA, xR_sA, xS_sA, xN_sA, Nat.reduceAdd, Nat.reduceLeDiff, sI_sA, I_sA', sA_sA, I_sA, I_sA', nI_add, mul_nI, bI_0, bI_1, ix_nI, cl_nI, lt_nI, eq_nI, sub_nI, Nat.reduceEqDiff, Nat.one_ne_zero, Nat.not_lt_zero, ↓reduceIte, hnl, dk, spt, z', ih]
      · rw [decide_eq_false hp, Bool.not_false] at hnw
        rw [hnw] at ih G' gm' gl'
        generalize pvS S i (ln S i) e k = P at *
        by_cases hg : S (2100 + l) = g
        · rw [if_neg (fun q => q.2 hg), if_pos ⟨rfl, hg⟩, List.append_nil] at ih
          rw [if_pos ⟨rfl, hg⟩, List.length_append] at gl'
          have gl2 : B.length < 400 := by simp only [List.length_singleton] at gl'; omega
          have r6 : rwS S A B 6506 = nI B.length := rw_6 gm gl
          have r6' : up1 (rwS S A B) (4900 + B.length) (nI l) 6506 = nI B.length := by rw [up1_ne (by omega), r6]
          have ap := rw_alf (S := S) (l := l) gm gl2
          simp (disch := first | (simp (disch := omega) only [am_k_some, va_rf_some, va_rf_none, tl_some, tl_none, am_clr_int, am_clr_ref, am_clr_none, am_clr_long, am_w_nil, am_w_int, am_w_ref, am_w_long, am_w_null, am_bb_0, am_bb_1, am_bb_bI, xK_sI, xR_sI, xS_sI, xN_sI, xK_sL, xR_sL, xS_sL, xN_sL, xK_sR, xR_sR, xS_sR, xN_sR, xK_sA, xR_sA, xS_sA, xN_sA, Nat.reduceAdd, Nat.reduceLeDiff, sI_sA, I_sA', sA_sA, I_sA, I_sA', nI_add, mul_nI, bI_0, bI_1, h.k, h.r0, h.k0, h.r1, h.k1, h.r2, h.k2, h.r3, h.k3, h.r4, h.k4, h.r5, h.k5, h.r6, h.k6, h.r8, h.k8, h.r9, h.k9, h.r15, h.k15, h.r17, h.k17, h.r19, h.k19, h.r20, h.k20, h.r21, h.k21, h.r22, h.k22, h, Mo_sA, Mo_sL, ix_nI, cl_nI]; done) | omega | (simp only [I_sA]; assumption)) only [e201_0, e201_1, e201_2, e201_3, e201_4, e201_7, e201_9, e201_10, e201_12, e201_13, e201_17, e201_19, e201_22, e201_23, e201_24, e201_25, e201_26, e201_27, e201_29, e201_32, e201_35, e201_37, e201_39, e201_42, e201_44, e201_46, e201_49, e201_50, e201_52, e201_53, e201_56, e201_57, e201_60, e201_61, e201_64, e201_67, e201_68, e201_71, e201_74, e201_75, e201_76, e201_78, e201_79, e201_80, e201_83, e201_86, e201_87, e201_88, e201_89, e201_90, e201_91, e201_94, e201_95, e201_98, e201_101, e201_102, e201_105, e201_108, e201_109, e201_110, e201_112, e201_113, e201_114, e201_117, e201_120, e201_121, e201_122, e201_123, e201_124, e201_125, e201_127, e201_129, e201_132, e201_135, am_k_some, va_rf_some, va_rf_none, tl_some, tl_none, am_clr_int, am_clr_ref, am_clr_none, am_clr_long, am_w_nil, am_w_int, am_w_ref, am_w_long, am_w_null, am_bb_0, am_bb_1, am_bb_bI, xK_sI, xR_sI, xS_sI, xN_sI, xK_sL, xR_sL, xS_sL, xN_sL, xK_sR, xR_sR, xS_sR, xN_sR, xK_sA, xR_sA, xS_sA, xN_sA, Nat.reduceAdd, Nat.reduceLeDiff, sI_sA, I_sA', sA_sA, I_sA, I_sA', nI_add, mul_nI, bI_0, bI_1, h.k, h.r0, h.k0, h.r1, h.k1, h.r2, h.k2, h.r3, h.k3, h.r4, h.k4, h.r5, h.k5, h.r6, h.k6, h.r8, h.k8, h.r9, h.k9, h.r15, h.k15, h.r17, h.k17, h.r19, h.k19, h.r20, h.k20, h.r21, h.k21, h.r22, h.k22, ix_nI, cl_nI, lt_nI, eq_nI, sub_nI, Nat.reduceEqDiff, Nat.one_ne_zero, Nat.not_lt_zero, ↓reduceIte, hnl, dk, spt, z', hp, get, hg, r6, r6', ap, ih]
        · rw [if_pos ⟨rfl, hg⟩, if_neg (fun q => hg q.2), List.append_nil] at ih
          rw [if_pos ⟨rfl, hg⟩, List.length_append] at gm'
          have gm2 : A.length < 400 := by simp only [List.length_singleton] at gm'; omega
          have r5 : rwS S A B 6505 = nI A.length := rw_5 gm gl
          have r5' : up1 (rwS S A B) (4500 + A.length) (nI l) 6505 = nI A.length := by rw [up1_ne (by omega), r5]
          have ap := rw_amv (S := S) (l := l) gm2 gl
          simp (disch := first | (simp (disch := omega) only [am_k_some, va_rf_some, va_rf_none, tl_some, tl_none, am_clr_int, am_clr_ref, am_clr_none, am_clr_long, am_w_nil, am_w_int, am_w_ref, am_w_long, am_w_null, am_bb_0, am_bb_1, am_bb_bI, xK_sI, xR_sI, xS_sI, xN_sI, xK_sL, xR_sL, xS_sL, xN_sL, xK_sR, xR_sR, xS_sR, xN_sR, xK_sA, xR_sA, xS_sA, xN_sA, Nat.reduceAdd, Nat.reduceLeDiff, sI_sA, I_sA', sA_sA, I_sA, I_sA', nI_add, mul_nI, bI_0, bI_1, h.k, h.r0, h.k0, h.r1, h.k1, h.r2, h.k2, h.r3, h.k3, h.r4, h.k4, h.r5, h.k5, h.r6, h.k6, h.r8, h.k8, h.r9, h.k9, h.r15, h.k15, h.r17, h.k17, h.r19, h.k19, h.r20, h.k20, h.r21, h.k21, h.r22, h.k22, h, Mo_sA, Mo_sL, ix_nI, cl_nI]; done) | omega | (simp only [I_sA]; assumption)) only [e201_0, e201_1, e201_2, e201_3, e201_4, e201_7, e201_9, e201_10, e201_12, e201_13, e201_17, e201_19, e201_22, e201_23, e201_24, e201_25, e201_26, e201_27, e201_29, e201_32, e201_35, e201_37, e201_39, e201_42, e201_44, e201_46, e201_49, e201_50, e201_52, e201_53, e201_56, e201_57, e201_60, e201_61, e201_64, e201_67, e201_68, e201_71, e201_74, e201_75, e201_76, e201_78, e201_79, e201_80, e201_83, e201_86, e201_87, e201_88, e201_89, e201_90, e201_91, e201_94, e201_95, e201_98, e201_101, e201_102, e201_105, e201_108, e201_109, e201_110, e201_112, e201_113, e201_114, e201_117, e201_120, e201_121, e201_122, e201_123, e201_124, e201_125, e201_127, e201_129, e201_132, e201_135, am_k_some, va_rf_some, va_rf_none, tl_some, tl_none, am_clr_int, am_clr_ref, am_clr_none, am_clr_long, am_w_nil, am_w_int, am_w_ref, am_w_long, am_w_null, am_bb_0, am_bb_1, am_bb_bI, xK_sI, xR_sI, xS_sI, xN_sI, xK_sL, xR_sL, xS_sL, xN_sL, xK_sR, xR_sR, xS_sR, xN_sR, xK_sA, xR_sA, xS_sA, xN_sA, Nat.reduceAdd, Nat.reduceLeDiff, sI_sA, I_sA', sA_sA, I_sA, I_sA', nI_add, mul_nI, bI_0, bI_1, h.k, h.r0, h.k0, h.r1, h.k1, h.r2, h.k2, h.r3, h.k3, h.r4, h.k4, h.r5, h.k5, h.r6, h.k6, h.r8, h.k8, h.r9, h.k9, h.r15, h.k15, h.r17, h.k17, h.r19, h.k19, h.r20, h.k20, h.r21, h.k21, h.r22, h.k22, ix_nI, cl_nI, lt_nI, eq_nI, sub_nI, Nat.reduceEqDiff, Nat.one_ne_zero, Nat.not_lt_zero, ↓reduceIte, hnl, dk, spt, z', hp, get, hg, r5, r5', ap, ih]
theorem sp_201 {d M i b : Nat} {e g : Int32} {m : am_M} {S : Nat → Int32} {MV LF : List Nat} (h : Mo m M) (hS : mI m (M + 1) = rwS S MV LF) (hN : NmOk S) (hL : LnOk S) (hC : WfC S) (hi : i < 20) (he : okE e) (hb : b < ln S i) (hd : deS S i e g = nI b) (hG : GdL S g i 0 e MV LF) :
    cal (d + 3) 201 [.ref M, .int (nI i), .int e, .int g] m = some (none, sA m (M + 1) (rwS S (MV ++ mvL S i e g (b + 1)) (LF ++ lvL S i e g (b + 1)))) := by
  have al := rw_agl (S := S) (hG.m hN) (hG.l hN)
  have e0 := sp_201_loop (d := d) h hN hL hC hi he hb hG (b + 1) 0 none (by omega)
  rw [mvL, lvL, List.append_nil, List.append_nil, ← hS, sA_self] at e0
  have de := sp_191 (d := d) (e := e) (g := g) (m := m) h (by rw [hS]; exact al.lnok hL) (by rw [hS]; exact al.nmok hN) (by rw [hS]; exact (al.c hN hL hC).ok) hi
  rw [hS, al.de hN hL hC.ok hi, hd] at de
  have p0 : pvS S i (ln S i) e 0 = -1 := rfl
  rw [p0] at e0
  simp (disch := first | (simp (disch := omega) only [am_k_some, va_rf_some, va_rf_none, tl_some, tl_none, am_clr_int, am_clr_ref, am_clr_none, am_clr_long, am_w_nil, am_w_int, am_w_ref, am_w_long, am_w_null, am_bb_0, am_bb_1, am_bb_bI, xK_sI, xR_sI, xS_sI, xN_sI, xK_sL, xR_sL, xS_sL, xN_sL, xK_sR, xR_sR, xS_sR, xN_sR, xK_sA, xR_sA, xS_sA, xN_sA, Nat.reduceAdd, Nat.reduceLeDiff, sI_sA, I_sA', sA_sA, I_sA, I_sA', nI_add, mul_nI, bI_0, bI_1, h.k, h.r0, h.k0, h.r1, h.k1, h.r2, h.k2, h.r3, h.k3, h.r4, h.k4, h.r5, h.k5, h.r6, h.k6, h.r8, h.k8, h.r9, h.k9, h.r15, h.k15, h.r17, h.k17, h.r19, h.k19, h.r20, h.k20, h.r21, h.k21, h.r22, h.k22, h, Mo_sA, Mo_sL, ix_nI, cl_nI]; done) | omega | (simp only [I_sA]; assumption)) only [c201, e201_0, e201_1, e201_2, e201_3, e201_4, e201_7, e201_9, e201_10, e201_12, e201_13, e201_17, e201_19, e201_22, e201_23, e201_24, e201_25, e201_26, e201_27, e201_29, e201_32, e201_35, e201_37, e201_39, e201_42, e201_44, e201_46, e201_49, e201_50, e201_52, e201_53, e201_56, e201_57, e201_60, e201_61, e201_64, e201_67, e201_68, e201_71, e201_74, e201_75, e201_76, e201_78, e201_79, e201_80, e201_83, e201_86, e201_87, e201_88, e201_89, e201_90, e201_91, e201_94, e201_95, e201_98, e201_101, e201_102, e201_105, e201_108, e201_109, e201_110, e201_112, e201_113, e201_114, e201_117, e201_120, e201_121, e201_122, e201_123, e201_124, e201_125, e201_127, e201_129, e201_132, e201_135, am_k_some, va_rf_some, va_rf_none, tl_some, tl_none, am_clr_int, am_clr_ref, am_clr_none, am_clr_long, am_w_nil, am_w_int, am_w_ref, am_w_long, am_w_null, am_bb_0, am_bb_1, am_bb_bI, xK_sI, xR_sI, xS_sI, xN_sI, xK_sL, xR_sL, xS_sL, xN_sL, xK_sR, xR_sR, xS_sR, xN_sR, xK_sA, xR_sA, xS_sA, xN_sA, Nat.reduceAdd, Nat.reduceLeDiff, sI_sA, I_sA', sA_sA, I_sA, I_sA', nI_add, mul_nI, bI_0, bI_1, h.k, h.r0, h.k0, h.r1, h.k1, h.r2, h.k2, h.r3, h.k3, h.r4, h.k4, h.r5, h.k5, h.r6, h.k6, h.r8, h.k8, h.r9, h.k9, h.r15, h.k15, h.r17, h.k17, h.r19, h.k19, h.r20, h.k20, h.r21, h.k21, h.r22, h.k22, ix_nI, cl_nI, lt_nI, eq_nI, sub_nI, Nat.reduceEqDiff, Nat.one_ne_zero, Nat.not_lt_zero, ↓reduceIte, de]
  exact e0
/-! all lanes -/
def alL (S : Nat → Int32) (g : Int32) : Nat → List Nat × List Nat
  | 0 => ([], [])
  | i + 1 => if efA S i g < nI 2 then ((alL S g i).1 ++ mvL S i (efA S i g) g (dn S i (efA S i g) g + 1), (alL S g i).2 ++ lvL S i (efA S i g) g (dn S i (efA S i g) g + 1)) else alL S g i
theorem ef_ok {S : Nat → Int32} {i : Nat} {g : Int32} (hL : LnOk S) (hi : i < 20) (hx : ¬ efA S i g = -1) (h2 : efA S i g < nI 2) : okE (efA S i g) ∧ S (800 + i) = nI 1 ∧ ∃ b, b < ln S i ∧ deS S i (efA S i g) g = nI b ∧ dn S i (efA S i g) g = b := by
  have l2 := (hL i hi).2
  unfold efA at hx h2 ⊢
  by_cases a1 : S (800 + i) = nI 1
  · rw [if_pos a1] at hx h2 ⊢
    by_cases a2 : deS S i (nI 0) g < nI 0
    · rw [if_pos a2] at h2; exact absurd h2 (by decide)
    rw [if_neg a2] at hx h2 ⊢
    rcases marks (x := g) l2 with ⟨m1, m2⟩ | ⟨a, b, hab, hb, m1, m2, m3, m4, m5⟩
    · rw [m1] at a2; exact absurd u1 a2
    have k0 : ∃ b, b < ln S i ∧ deS S i (nI 0) g = nI b ∧ dn S i (nI 0) g = b := ⟨b, hb, m2, by unfold dn; rw [m2, cl_nI (by omega)]⟩
    have k1 : ∃ b, b < ln S i ∧ deS S i (nI 1) g = nI b ∧ dn S i (nI 1) g = b := ⟨ln S i - 1 - a, by omega, m3, by unfold dn; rw [m3, cl_nI (by omega)]⟩
    cases c0 : icS S i (nI 0) g with
    | true =>
      rw [c0, if_pos rfl] at hx h2
      rw [if_pos rfl]
      cases c1 : icS S i (nI 1) g with
      | true =>
        rw [if_pos rfl]
        by_cases c2 : hiS S i (nI 1) g < hiS S i (nI 0) g
        · rw [if_pos c2]; exact ⟨Or.inr rfl, a1, k1⟩
        · rw [if_neg c2]; exact ⟨Or.inl rfl, a1, k0⟩
      | false => rw [if_neg (by decide)]; exact ⟨Or.inl rfl, a1, k0⟩
    | false =>
      rw [c0, if_neg (by decide)] at hx h2
      rw [if_neg (by decide)]
      cases c1 : icS S i (nI 1) g with
      | true => rw [if_pos rfl]; exact ⟨Or.inr rfl, a1, k1⟩
      | false => rw [c1, if_neg (by decide)] at hx; exact absurd rfl hx
  · rw [if_neg a1] at h2; exact absurd h2 (by decide)
theorem al_G {S : Nat → Int32} {g e : Int32} (hN : NmOk S) (hL : LnOk S) (hC : WfC S) (hk : ∀ i, i < 20 → ¬ efA S i g = -1) : ∀ i, i ≤ 20 → GdL S g i 0 e (alL S g i).1 (alL S g i).2 := by
  intro i
  induction i with
  | zero => intro _; exact GdL.nil
  | succ i ih =>
    intro hi
    have ih := ih (by omega)
    unfold alL
    by_cases h2 : efA S i g < nI 2
    · rw [if_pos h2]
      obtain ⟨o1, o2, b, hb, o3, o4⟩ := ef_ok hL (show i < 20 by omega) (hk i (by omega)) h2
      rw [o4]
      exact (ih.start.run hN hL hC (by omega) o1 (b + 1) (by omega)).lane
    · rw [if_neg h2]
      exact ih.lane
/-- the ship behind a port -/
def arS (S : Nat → Int32) (g : Int32) : Nat → Int32 := rwS (tkS S (alL S g 20).2) (alL S g 20).1 (alL S g 20).2
def arE (S : Nat → Int32) : Nat → Int32 := if S 6502 + nI 1 = S 6503 then up1 (up1 (up1 (up1 (arS S (S 6502)) 6504 (S 6504 + nI (alL S (S 6502) 20).1.length)) 6502 (S 6502 + nI 1)) 6501 (nI 0)) 6502 (-1) else up1 (up1 (arS S (S 6502)) 6504 (S 6504 + nI (alL S (S 6502) 20).1.length)) 6502 (S 6502 + nI 1)
theorem sp_202_a {d M : Nat} {g : Int32} {m : am_M} {S : Nat → Int32} (h : Mo m M) (hN : NmOk S) (hL : LnOk S) (hC : WfC S) (hk : ∀ i, i < 20 → ¬ efA S i g = -1) : ∀ r i (x3 : Option Value), i + r = 20 → ∃ y3 : Option Value,
    ev (d + 5) 202 39 [some (.ref M), some (.int g), some (.int (nI i)), x3] [] (sA m (M + 1) (rwS S (alL S g i).1 (alL S g i).2)) = ev (d + 5) 202 70 [some (.ref M), some (.int g), some (.int (nI 20)), y3] [] (sA m (M + 1) (rwS S (alL S g 20).1 (alL S g 20).2)) := by
  intro r
  induction r with
  | zero =>
    intro i x3 hi
    have hi' : i = 20 := by omega
    subst hi'
    have hnl : ¬ 20 < 20 := by omega
    refine ⟨x3, ?_⟩
    rw [e202_39]
    simp (disch := first | (simp (disch := omega) only [am_k_some, va_rf_some, va_rf_none, tl_some, tl_none, am_clr_int, am_clr_ref, am_clr_none, am_clr_long, am_w_nil, am_w_int, am_w_ref, am_w_long, am_w_null, am_bb_0, am_bb_1, am_bb_bI, xK_sI, xR_sI, xS_sI, xN_sI, xK_sL, xR_sL, xS_sL, xN_sL, xK_sR, xR_sR, xS_sR, xN_sR, xK_sA, xR_sA, xS_sA, xN_sA, Nat.reduceAdd, Nat.reduceLeDiff, sI_sA, I_sA', sA_sA, I_sA, I_sA', nI_add, mul_nI, bI_0, bI_1, h.k, h.r0, h.k0, h.r1, h.k1, h.r2, h.k2, h.r3, h.k3, h.r4, h.k4, h.r5, h.k5, h.r6, h.k6, h.r8, h.k8, h.r9, h.k9, h.r15, h.k15, h.r17, h.k17, h.r19, h.k19, h.r20, h.k20, h.r21, h.k21, h.r22, h.k22, h, Mo_sA, Mo_sL, ix_nI, cl_nI]; done) | omega | (simp only [I_sA]; assumption)) only [e202_0, e202_1, e202_4, e202_7, e202_9, e202_10, e202_11, e202_14, e202_17, e202_18, e202_19, e202_20, e202_23, e202_26, e202_27, e202_28, e202_29, e202_32, e202_35, e202_36, e202_37, e202_38, e202_40, e202_42, e202_45, e202_46, e202_47, e202_48, e202_51, e202_52, e202_53, e202_54, e202_57, e202_58, e202_59, e202_60, e202_61, e202_64, e202_67, e202_71, e202_73, e202_74, e202_77, e202_80, e202_81, e202_84, e202_85, e202_86, e202_89, e202_92, e202_93, e202_94, e202_95, e202_96, e202_99, e202_102, e202_105, e202_106, e202_109, e202_112, e202_113, e202_114, e202_115, e202_118, e202_121, e202_122, e202_123, e202_124, e202_125, e202_128, e202_131, e202_132, e202_133, e202_134, e202_135, e202_136, e202_137, e202_138, e202_139, e202_142, e202_145, e202_146, e202_149, e202_150, e202_153, e202_156, e202_157, e202_158, e202_159, e202_162, e202_165, e202_166, e202_167, e202_168, e202_171, e202_174, e202_175, am_k_some, va_rf_some, va_rf_none, tl_some, tl_none, am_clr_int, am_clr_ref, am_clr_none, am_clr_long, am_w_nil, am_w_int, am_w_ref, am_w_long, am_w_null, am_bb_0, am_bb_1, am_bb_bI, xK_sI, xR_sI, xS_sI, xN_sI, xK_sL, xR_sL, xS_sL, xN_sL, xK_sR, xR_sR, xS_sR, xN_sR, xK_sA, xR_sA, xS_sA, xN_sA, Nat.reduceAdd, Nat.reduceLeDiff, sI_sA, I_sA', sA_sA, I_sA, I_sA', nI_add, mul_nI, bI_0, bI_1, ix_nI, cl_nI, lt_nI, eq_nI, sub_nI, Nat.reduceEqDiff, Nat.one_ne_zero, Nat.not_lt_zero, ↓reduceIte, hnl]
  | succ r ih =>
    intro i x3 hi
    have hnl : i < 20 := by omega
    have G := al_G (e := nI 0) hN hL hC hk i (by omega)
    have al := rw_agl (S := S) (G.m hN) (G.l hN)
    have ef := sp_194 (d := d) (g := g) (m := sA m (M + 1) (rwS S (alL S g i).1 (alL S g i).2)) (h.sA _ _) (by rw [I_sA]; exact al.lnok hL) (by rw [I_sA]; exact al.nmok hN) (by rw [I_sA]; exact (al.c hN hL hC).ok) hnl
    rw [I_sA, al.ef hN hL hC.ok hnl] at ef
    obtain ⟨y3, e2⟩ := ih (i + 1) (some (.int (efA S i g))) (by omega)
    refine ⟨y3, ?_⟩
    rw [alL] at e2
    rw [e202_39]
    by_cases h2 : efA S i g < nI 2
    · obtain ⟨o1, o2, b, hb, o3, o4⟩ := ef_ok hL hnl (hk i hnl) h2
      rw [if_pos h2, o4] at e2
      have lv := sp_201 (d := d + 1) (m := sA m (M + 1) (rwS S (alL S g i).1 (alL S g i).2)) (h.sA _ _) (I_sA ..) hN hL hC hnl o1 hb o3 G.start
      rw [sA_sA] at lv
      simp (disch := first | (simp (disch := omega) only [am_k_some, va_rf_some, va_rf_none, tl_some, tl_none, am_clr_int, am_clr_ref, am_clr_none, am_clr_long, am_w_nil, am_w_int, am_w_ref, am_w_long, am_w_null, am_bb_0, am_bb_1, am_bb_bI, xK_sI, xR_sI, xS_sI, xN_sI, xK_sL, xR_sL, xS_sL, xN_sL, xK_sR, xR_sR, xS_sR, xN_sR, xK_sA, xR_sA, xS_sA, xN_sA, Nat.reduceAdd, Nat.reduceLeDiff, sI_sA, I_sA', sA_sA, I_sA, I_sA', nI_add, mul_nI, bI_0, bI_1, h.k, h.r0, h.k0, h.r1, h.k1, h.r2, h.k2, h.r3, h.k3, h.r4, h.k4, h.r5, h.k5, h.r6, h.k6, h.r8, h.k8, h.r9, h.k9, h.r15, h.k15, h.r17, h.k17, h.r19, h.k19, h.r20, h.k20, h.r21, h.k21, h.r22, h.k22, h, Mo_sA, Mo_sL, ix_nI, cl_nI]; done) | omega | (simp only [I_sA]; assumption)) only [e202_0, e202_1, e202_4, e202_7, e202_9, e202_10, e202_11, e202_14, e202_17, e202_18, e202_19, e202_20, e202_23, e202_26, e202_27, e202_28, e202_29, e202_32, e202_35, e202_36, e202_37, e202_38, e202_40, e202_42, e202_45, e202_46, e202_47, e202_48, e202_51, e202_52, e202_53, e202_54, e202_57, e202_58, e202_59, e202_60, e202_61, e202_64, e202_67, e202_71, e202_73, e202_74, e202_77, e202_80, e202_81, e202_84, e202_85, e202_86, e202_89, e202_92, e202_93, e202_94, e202_95, e202_96, e202_99, e202_102, e202_105, e202_106, e202_109, e202_112, e202_113, e202_114, e202_115, e202_118, e202_121, e202_122, e202_123, e202_124, e202_125, e202_128, e202_131, e202_132, e202_133, e202_134, e202_135, e202_136, e202_137, e202_138, e202_139, e202_142, e202_145, e202_146, e202_149, e202_150, e202_153, e202_156, e202_157, e202_158, e202_159, e202_162, e202_165, e202_166, e202_167, e202_168, e202_171, e202_174, e202_175, am_k_some, va_rf_some, va_rf_none, tl_some, tl_none, am_clr_int, am_clr_ref, am_clr_none, am_clr_long, am_w_nil, am_w_int, am_w_ref, am_w_long, am_w_null, am_bb_0, am_bb_1, am_bb_bI, xK_sI, xR_sI, xS_sI, xN_sI, xK_sL, xR_sL, xS_sL, xN_sL, xK_sR, xR_sR, xS_sR, xN_sR, xK_sA, xR_sA, xS_sA, xN_sA, Nat.reduceAdd, Nat.reduceLeDiff, sI_sA, I_sA', sA_sA, I_sA, I_sA', nI_add, mul_nI, bI_0, bI_1, ix_nI, cl_nI, lt_nI, eq_nI, sub_nI, Nat.reduceEqDiff, Nat.one_ne_zero, Nat.not_lt_zero, ↓reduceIte, hnl, ef, h2, lv, e2]
    · rw [if_neg h2] at e2
      simp (disch := first | (simp (disch := omega) only [am_k_some, va_rf_some, va_rf_none, tl_some, tl_none, am_clr_int, am_clr_ref, am_clr_none, am_clr_long, am_w_nil, am_w_int, am_w_ref, am_w_long, am_w_null, am_bb_0, am_bb_1, am_bb_bI, xK_sI, xR_sI, xS_sI, xN_sI, xK_sL, xR_sL, xS_sL, xN_sL, xK_sR, xR_sR, xS_sR, xN_sR, xK_sA, xR_sA, xS_sA, xN_sA, Nat.reduceAdd, Nat.reduceLeDiff, sI_sA, I_sA', sA_sA, I_sA, I_sA', nI_add, mul_nI, bI_0, bI_1, h.k, h.r0, h.k0, h.r1, h.k1, h.r2, h.k2, h.r3, h.k3, h.r4, h.k4, h.r5, h.k5, h.r6, h.k6, h.r8, h.k8, h.r9, h.k9, h.r15, h.k15, h.r17, h.k17, h.r19, h.k19, h.r20, h.k20, h.r21, h.k21, h.r22, h.k22, h, Mo_sA, Mo_sL, ix_nI, cl_nI]; done) | omega | (simp only [I_sA]; assumption)) only [e202_0, e202_1, e202_4, e202_7, e202_9, e202_10, e202_11, e202_14, e202_17, e202_18, e202_19, e202_20, e202_23, e202_26, e202_27, e202_28, e202_29, e202_32, e202_35, e202_36, e202_37, e202_38, e202_40, e202_42, e202_45, e202_46, e202_47, e202_48, e202_51, e202_52, e202_53, e202_54, e202_57, e202_58, e202_59, e202_60, e202_61, e202_64, e202_67, e202_71, e202_73, e202_74, e202_77, e202_80, e202_81, e202_84, e202_85, e202_86, e202_89, e202_92, e202_93, e202_94, e202_95, e202_96, e202_99, e202_102, e202_105, e202_106, e202_109, e202_112, e202_113, e202_114, e202_115, e202_118, e202_121, e202_122, e202_123, e202_124, e202_125, e202_128, e202_131, e202_132, e202_133, e202_134, e202_135, e202_136, e202_137, e202_138, e202_139, e202_142, e202_145, e202_146, e202_149, e202_150, e202_153, e202_156, e202_157, e202_158, e202_159, e202_162, e202_165, e202_166, e202_167, e202_168, e202_171, e202_174, e202_175, am_k_some, va_rf_some, va_rf_none, tl_some, tl_none, am_clr_int, am_clr_ref, am_clr_none, am_clr_long, am_w_nil, am_w_int, am_w_ref, am_w_long, am_w_null, am_bb_0, am_bb_1, am_bb_bI, xK_sI, xR_sI, xS_sI, xN_sI, xK_sL, xR_sL, xS_sL, xN_sL, xK_sR, xR_sR, xS_sR, xN_sR, xK_sA, xR_sA, xS_sA, xN_sA, Nat.reduceAdd, Nat.reduceLeDiff, sI_sA, I_sA', sA_sA, I_sA, I_sA', nI_add, mul_nI, bI_0, bI_1, ix_nI, cl_nI, lt_nI, eq_nI, sub_nI, Nat.reduceEqDiff, Nat.one_ne_zero, Nat.not_lt_zero, ↓reduceIte, hnl, ef, h2, e2]
theorem sp_202_b {d M : Nat} {g : Int32} {m : am_M} {S : Nat → Int32} {MV LF : List Nat} {x3 : Option Value} (h : Mo m M) (hN : NmOk S) (hL : LnOk S) (hC : WfC S) (hG : GdL S g 20 0 (nI 0) MV LF) : ∀ r k, k + r = LF.length →
    ev (d + 3) 202 72 [some (.ref M), some (.int g), some (.int (nI k)), x3] [] (sA m (M + 1) (rwS (tkS S (LF.take k)) MV LF)) = ev (d + 3) 202 105 [some (.ref M), some (.int g), some (.int (nI LF.length)), x3] [] (sA m (M + 1) (rwS (tkS S LF) MV LF)) := by
  have gm := hG.m hN
  have gl := hG.l hN
  have n2 := hN.2
  intro r
  induction r with
  | zero =>
    intro k hk
    have hk' : k = LF.length := by omega
    subst hk'
    have hnl : ¬ LF.length < LF.length := by omega
    rw [List.take_length, e202_72]
    have r6 : rwS (tkS S LF) MV LF 6506 = nI LF.length := rw_6 gm gl
    simp (disch := first | (simp (disch := omega) only [am_k_some, va_rf_some, va_rf_none, tl_some, tl_none, am_clr_int, am_clr_ref, am_clr_none, am_clr_long, am_w_nil, am_w_int, am_w_ref, am_w_long, am_w_null, am_bb_0, am_bb_1, am_bb_bI, xK_sI, xR_sI, xS_sI, xN_sI, xK_sL, xR_sL, xS_sL, xN_sL, xK_sR, xR_sR, xS_sR, xN_sR, xK_sA, xR_sA, xS_sA, xN_sA, Nat.reduceAdd, Nat.reduceLeDiff, sI_sA, I_sA', sA_sA, I_sA, I_sA', nI_add, mul_nI, bI_0, bI_1, h.k, h.r0, h.k0, h.r1, h.k1, h.r2, h.k2, h.r3, h.k3, h.r4, h.k4, h.r5, h.k5, h.r6, h.k6, h.r8, h.k8, h.r9, h.k9, h.r15, h.k15, h.r17, h.k17, h.r19, h.k19, h.r20, h.k20, h.r21, h.k21, h.r22, h.k22, h, Mo_sA, Mo_sL, ix_nI, cl_nI]; done) | omega | (simp only [I_sA]; assumption)) only [e202_0, e202_1, e202_4, e202_7, e202_9, e202_10, e202_11, e202_14, e202_17, e202_18, e202_19, e202_20, e202_23, e202_26, e202_27, e202_28, e202_29, e202_32, e202_35, e202_36, e202_37, e202_38, e202_40, e202_42, e202_45, e202_46, e202_47, e202_48, e202_51, e202_52, e202_53, e202_54, e202_57, e202_58, e202_59, e202_60, e202_61, e202_64, e202_67, e202_70, e202_71, e202_73, e202_74, e202_77, e202_80, e202_81, e202_84, e202_85, e202_86, e202_89, e202_92, e202_93, e202_94, e202_95, e202_96, e202_99, e202_102, e202_106, e202_109, e202_112, e202_113, e202_114, e202_115, e202_118, e202_121, e202_122, e202_123, e202_124, e202_125, e202_128, e202_131, e202_132, e202_133, e202_134, e202_135, e202_136, e202_137, e202_138, e202_139, e202_142, e202_145, e202_146, e202_149, e202_150, e202_153, e202_156, e202_157, e202_158, e202_159, e202_162, e202_165, e202_166, e202_167, e202_168, e202_171, e202_174, e202_175, am_k_some, va_rf_some, va_rf_none, tl_some, tl_none, am_clr_int, am_clr_ref, am_clr_none, am_clr_long, am_w_nil, am_w_int, am_w_ref, am_w_long, am_w_null, am_bb_0, am_bb_1, am_bb_bI, xK_sI, xR_sI, xS_sI, xN_sI, xK_sL, xR_sL, xS_sL, xN_sL, xK_sR, xR_sR, xS_sR, xN_sR, xK_sA, xR_sA, xS_sA, xN_sA, Nat.reduceAdd, Nat.reduceLeDiff, sI_sA, I_sA', sA_sA, I_sA, I_sA', nI_add, mul_nI, bI_0, bI_1, h.k, h.r0, h.k0, h.r1, h.k1, h.r2, h.k2, h.r3, h.k3, h.r4, h.k4, h.r5, h.k5, h.r6, h.k6, h.r8, h.k8, h.r9, h.k9, h.r15, h.k15, h.r17, h.k17, h.r19, h.k19, h.r20, h.k20, h.r21, h.k21, h.r22, h.k22, ix_nI, cl_nI, lt_nI, eq_nI, sub_nI, Nat.reduceEqDiff, Nat.one_ne_zero, Nat.not_lt_zero, ↓reduceIte, r6, hnl]
  | succ r ih =>
    intro k hk
    have hnl : k < LF.length := by omega
    have ih := ih (k + 1) (by omega)
    have r6 : rwS (tkS S (LF.take k)) MV LF 6506 = nI LF.length := rw_6 gm gl
    have rk : rwS (tkS S (LF.take k)) MV LF (4900 + k) = nI (LF.getD k 0) := rw_lf gm hnl
    have hget : LF.getD k 0 = LF[k] := by rw [List.getD_eq_getElem?_getD, List.getElem?_eq_getElem hnl]; rfl
    rw [hget] at rk
    have hmem : LF[k] ∈ LF := List.getElem_mem hnl
    obtain ⟨⟨hl, j, q, hs, -⟩, -⟩ := hG.2.2.2 _ hmem
    have htk : LF.take (k + 1) = LF.take k ++ [LF[k]] := by rw [List.take_append_getElem]
    have hnot : LF[k] ∉ LF.take k := by
      have nd := hG.2.1
      rw [← List.take_append_drop (k + 1) LF, htk, List.nodup_append, List.nodup_append] at nd
      exact fun hm => nd.1.2.2 _ hm _ (List.mem_singleton.mpr rfl) rfl
    generalize LF[k] = l at *
    have h4 := hs.2.2.2.1
    have h6 := hs.2.2.2.2.2.1
    have l2 := (hL j h4).2
    have st := tk_st (LF := LF.take k) hN hL hl hnot hs
    have al := rw_agl (S := tkS S (LF.take k)) gm gl
    have sp := tk_ag.span (S := S) (S' := tkS S (LF.take k)) (l := l) (by omega)
    have tk := sp_157 (d := d) (w := nI 2) (m := sA m (M + 1) (rwS (tkS S (LF.take k)) MV LF)) (i := j) (q := q) (l := l) (h.sA _ _) (by omega) h4 (by rw [I_sA, al.sp (by omega), sp]; omega) (by rw [I_sA, al.1 _ (by omega)]; exact st.2.1) (by rw [I_sA, al.1 _ (by omega)]; exact st.2.2.1)
    rw [I_sA, sA_sA, take_rw gm gl (by omega) h4 (by rw [sp]; omega), tk_app hN hL hC hl hnot hs, ← htk] at tk
    rw [e202_72]
    simp (disch := first | (simp (disch := omega) only [am_k_some, va_rf_some, va_rf_none, tl_some, tl_none, am_clr_int, am_clr_ref, am_clr_none, am_clr_long, am_w_nil, am_w_int, am_w_ref, am_w_long, am_w_null, am_bb_0, am_bb_1, am_bb_bI, xK_sI, xR_sI, xS_sI, xN_sI, xK_sL, xR_sL, xS_sL, xN_sL, xK_sR, xR_sR, xS_sR, xN_sR, xK_sA, xR_sA, xS_sA, xN_sA, Nat.reduceAdd, Nat.reduceLeDiff, sI_sA, I_sA', sA_sA, I_sA, I_sA', nI_add, mul_nI, bI_0, bI_1, h.k, h.r0, h.k0, h.r1, h.k1, h.r2, h.k2, h.r3, h.k3, h.r4, h.k4, h.r5, h.k5, h.r6, h.k6, h.r8, h.k8, h.r9, h.k9, h.r15, h.k15, h.r17, h.k17, h.r19, h.k19, h.r20, h.k20, h.r21, h.k21, h.r22, h.k22, h, Mo_sA, Mo_sL, ix_nI, cl_nI]; done) | omega | (simp only [I_sA]; assumption)) only [e202_0, e202_1, e202_4, e202_7, e202_9, e202_10, e202_11, e202_14, e202_17, e202_18, e202_19, e202_20, e202_23, e202_26, e202_27, e202_28, e202_29, e202_32, e202_35, e202_36, e202_37, e202_38, e202_40, e202_42, e202_45, e202_46, e202_47, e202_48, e202_51, e202_52, e202_53, e202_54, e202_57, e202_58, e202_59, e202_60, e202_61, e202_64, e202_67, e202_70, e202_71, e202_73, e202_74, e202_77, e202_80, e202_81, e202_84, e202_85, e202_86, e202_89, e202_92, e202_93, e202_94, e202_95, e202_96, e202_99, e202_102, e202_106, e202_109, e202_112, e202_113, e202_114, e202_115, e202_118, e202_121, e202_122, e202_123, e202_124, e202_125, e202_128, e202_131, e202_132, e202_133, e202_134, e202_135, e202_136, e202_137, e202_138, e202_139, e202_142, e202_145, e202_146, e202_149, e202_150, e202_153, e202_156, e202_157, e202_158, e202_159, e202_162, e202_165, e202_166, e202_167, e202_168, e202_171, e202_174, e202_175, am_k_some, va_rf_some, va_rf_none, tl_some, tl_none, am_clr_int, am_clr_ref, am_clr_none, am_clr_long, am_w_nil, am_w_int, am_w_ref, am_w_long, am_w_null, am_bb_0, am_bb_1, am_bb_bI, xK_sI, xR_sI, xS_sI, xN_sI, xK_sL, xR_sL, xS_sL, xN_sL, xK_sR, xR_sR, xS_sR, xN_sR, xK_sA, xR_sA, xS_sA, xN_sA, Nat.reduceAdd, Nat.reduceLeDiff, sI_sA, I_sA', sA_sA, I_sA, I_sA', nI_add, mul_nI, bI_0, bI_1, h.k, h.r0, h.k0, h.r1, h.k1, h.r2, h.k2, h.r3, h.k3, h.r4, h.k4, h.r5, h.k5, h.r6, h.k6, h.r8, h.k8, h.r9, h.k9, h.r15, h.k15, h.r17, h.k17, h.r19, h.k19, h.r20, h.k20, h.r21, h.k21, h.r22, h.k22, ix_nI, cl_nI, lt_nI, eq_nI, sub_nI, Nat.reduceEqDiff, Nat.one_ne_zero, Nat.not_lt_zero, ↓reduceIte, r6, hnl, rk, tk, ih]
theorem sp_202q {d M : Nat} {m : am_M} (h : Mo m M) (a1 : ¬ mI m (M + 1) 6501 = nI 1) : cal (d + 5) 202 [.ref M] m = some (some (.int (-2)), m) := by
  simp (disch := first | (simp (disch := omega) only [am_k_some, va_rf_some, va_rf_none, tl_some, tl_none, am_clr_int, am_clr_ref, am_clr_none, am_clr_long, am_w_nil, am_w_int, am_w_ref, am_w_long, am_w_null, am_bb_0, am_bb_1, am_bb_bI, xK_sI, xR_sI, xS_sI, xN_sI, xK_sL, xR_sL, xS_sL, xN_sL, xK_sR, xR_sR, xS_sR, xN_sR, xK_sA, xR_sA, xS_sA, xN_sA, Nat.reduceAdd, Nat.reduceLeDiff, sI_sA, I_sA', sA_sA, I_sA, I_sA', nI_add, mul_nI, bI_0, bI_1, h.k, h.r0, h.k0, h.r1, h.k1, h.r2, h.k2, h.r3, h.k3, h.r4, h.k4, h.r5, h.k5, h.r6, h.k6, h.r8, h.k8, h.r9, h.k9, h.r15, h.k15, h.r17, h.k17, h.r19, h.k19, h.r20, h.k20, h.r21, h.k21, h.r22, h.k22, h, Mo_sA, Mo_sL, ix_nI, cl_nI]; done) | omega | (simp only [I_sA]; assumption)) only [c202, e202_0, e202_1, e202_4, e202_7, e202_9, e202_10, e202_11, e202_14, e202_17, e202_18, e202_19, e202_20, e202_23, e202_26, e202_27, e202_28, e202_29, e202_32, e202_35, e202_36, e202_37, e202_38, e202_40, e202_42, e202_45, e202_46, e202_47, e202_48, e202_51, e202_52, e202_53, e202_54, e202_57, e202_58, e202_59, e202_60, e202_61, e202_64, e202_67, e202_71, e202_73, e202_74, e202_77, e202_80, e202_81, e202_84, e202_85, e202_86, e202_89, e202_92, e202_93, e202_94, e202_95, e202_96, e202_99, e202_102, e202_105, e202_106, e202_109, e202_112, e202_113, e202_114, e202_115, e202_118, e202_121, e202_122, e202_123, e202_124, e202_125, e202_128, e202_131, e202_132, e202_133, e202_134, e202_135, e202_136, e202_137, e202_138, e202_139, e202_142, e202_145, e202_146, e202_149, e202_150, e202_153, e202_156, e202_157, e202_158, e202_159, e202_162, e202_165, e202_166, e202_167, e202_168, e202_171, e202_174, e202_175, am_k_some, va_rf_some, va_rf_none, tl_some, tl_none, am_clr_int, am_clr_ref, am_clr_none, am_clr_long, am_w_nil, am_w_int, am_w_ref, am_w_long, am_w_null, am_bb_0, am_bb_1, am_bb_bI, xK_sI, xR_sI, xS_sI, xN_sI, xK_sL, xR_sL, xS_sL, xN_sL, xK_sR, xR_sR, xS_sR, xN_sR, xK_sA, xR_sA, xS_sA, xN_sA, Nat.reduceAdd, Nat.reduceLeDiff, sI_sA, I_sA', sA_sA, I_sA, I_sA', nI_add, mul_nI, bI_0, bI_1, h.k, h.r0, h.k0, h.r1, h.k1, h.r2, h.k2, h.r3, h.k3, h.r4, h.k4, h.r5, h.k5, h.r6, h.k6, h.r8, h.k8, h.r9, h.k9, h.r15, h.k15, h.r17, h.k17, h.r19, h.k19, h.r20, h.k20, h.r21, h.k21, h.r22, h.k22, ix_nI, cl_nI, lt_nI, eq_nI, sub_nI, Nat.reduceEqDiff, Nat.one_ne_zero, Nat.not_lt_zero, ↓reduceIte, k1, k2, k3, k4, k5, k6, k7, k8, k9, n10, n01, if_true, if_false, decide_true, decide_false, Bool.true_eq_false, Bool.false_eq_true, not_true_eq_false, not_false_eq_true, and_true, true_and, and_false, false_and, sp_148, a1]
theorem sp_202 {d M : Nat} {m : am_M} {S : Nat → Int32} (h : Mo m M) (hS : mI m (M + 1) = S) (W : Wf S) (a1 : S 6501 = nI 1) : cal (d + 5) 202 [.ref M] m = some (some (.int (nI (alL S (S 6502) 20).1.length)), sA m (M + 1) (arE S)) := by
  have hk : ∀ i, i < 20 → ¬ efA S i (S 6502) = -1 := by
    intro i hi
    obtain ⟨d1, d2, d3⟩ := dy_ok W.y
    have hp := W.k a1 (p0S S) (Nat.le_refl _)
    rcases W.y with ⟨-, ⟨b1, b2⟩ | ⟨b1, p, b2, b3⟩⟩
    · rw [a1] at b1; exact absurd b1 (by decide)
    · have e : p0S S = p := by unfold p0S; rw [if_pos a1, b2]; exact cl_nI (by omega)
      rw [e] at hp
      rw [b2]
      exact hp b3 i hi
  have G := al_G (e := nI 0) W.nm W.ln W.c hk 20 (Nat.le_refl _)
  have gm := G.m W.nm
  have gl := G.l W.nm
  obtain ⟨y3, e1⟩ := sp_202_a (d := d) h W.nm W.ln W.c hk 20 0 none rfl
  have e2 := sp_202_b (d := d + 2) (x3 := y3) h W.nm W.ln W.c G _ 0 (Nat.zero_add _)
  rw [List.take_zero, tk_nil] at e2
  rw [alL, rw_nil] at e1
  have z : mI m (M + 1) 6501 = nI 1 := by rw [hS]; exact a1
  have off : ∀ y, (y < 4500 ∨ 5300 ≤ y) → y ≠ 6505 → y ≠ 6506 → rwS (tkS S (alL S (S 6502) 20).2) (alL S (S 6502) 20).1 (alL S (S 6502) 20).2 y = tkS S (alL S (S 6502) 20).2 y := fun y h1 h5 h6 => rw_off h1 h5 h6 gm gl
  have t4 : arS S (S 6502) 6504 = S 6504 := by unfold arS; rw [off _ (by omega) (by omega) (by omega), tk_ag _ (by omega) (by omega)]
  have t3 : arS S (S 6502) 6503 = S 6503 := by unfold arS; rw [off _ (by omega) (by omega) (by omega), tk_ag _ (by omega) (by omega)]
  have t5 : arS S (S 6502) 6505 = nI (alL S (S 6502) 20).1.length := rw_5 gm gl
  have hT : rwS (tkS S (alL S (S 6502) 20).2) (alL S (S 6502) 20).1 (alL S (S 6502) 20).2 = arS S (S 6502) := rfl
  rw [hT] at e2
  unfold arE
  generalize arS S (S 6502) = T at *
  generalize (alL S (S 6502) 20).1.length = N at *
  have u5 : ∀ v, up1 T 6504 v 6505 = nI N := fun v => by rw [up1_ne (by omega), t5]
  have u3 : ∀ v w, up1 (up1 T 6504 v) 6502 w 6503 = S 6503 := fun v w => by rw [up1_ne (by omega), up1_ne (by omega), t3]
  have v5 : ∀ v w, up1 (up1 T 6504 v) 6502 w 6505 = nI N := fun v w => by rw [up1_ne (by omega), up1_ne (by omega), t5]
  have w5 : ∀ v w x y, up1 (up1 (up1 (up1 T 6504 v) 6502 w) 6501 x) 6502 y 6505 = nI N := fun v w x y => by rw [up1_ne (by omega), up1_ne (by omega), up1_ne (by omega), up1_ne (by omega), t5]
  by_cases hc : S 6502 + nI 1 = S 6503
  · rw [if_pos hc]
    simp (disch := first | (simp (disch := omega) only [am_k_some, va_rf_some, va_rf_none, tl_some, tl_none, am_clr_int, am_clr_ref, am_clr_none, am_clr_long, am_w_nil, am_w_int, am_w_ref, am_w_long, am_w_null, am_bb_0, am_bb_1, am_bb_bI, xK_sI, xR_sI, xS_sI, xN_sI, xK_sL, xR_sL, xS_sL, xN_sL, xK_sR, xR_sR, xS_sR, xN_sR, xK_sA, xR_sA, xS_sA, xN_sA, Nat.reduceAdd, Nat.reduceLeDiff, sI_sA, I_sA', sA_sA, I_sA, I_sA', nI_add, mul_nI, bI_0, bI_1, h.k, h.r0, h.k0, h.r1, h.k1, h.r2, h.k2, h.r3, h.k3, h.r4, h.k4, h.r5, h.k5, h.r6, h.k6, h.r8, h.k8, h.r9, h.k9, h.r15, h.k15, h.r17, h.k17, h.r19, h.k19, h.r20, h.k20, h.r21, h.k21, h.r22, h.k22, h, Mo_sA, Mo_sL, ix_nI, cl_nI]; done) | omega | (simp only [I_sA]; assumption)) only [c202, e202_0, e202_1, e202_4, e202_7, e202_9, e202_10, e202_11, e202_14, e202_17, e202_18, e202_19, e202_20, e202_23, e202_26, e202_27, e202_28, e202_29, e202_32, e202_35, e202_36, e202_37, e202_38, e202_40, e202_42, e202_45, e202_46, e202_47, e202_48, e202_51, e202_52, e202_53, e202_54, e202_57, e202_58, e202_59, e202_60, e202_61, e202_64, e202_67, e202_71, e202_73, e202_74, e202_77, e202_80, e202_81, e202_84, e202_85, e202_86, e202_89, e202_92, e202_93, e202_94, e202_95, e202_96, e202_99, e202_102, e202_105, e202_106, e202_109, e202_112, e202_113, e202_114, e202_115, e202_118, e202_121, e202_122, e202_123, e202_124, e202_125, e202_128, e202_131, e202_132, e202_133, e202_134, e202_135, e202_136, e202_137, e202_138, e202_139, e202_142, e202_145, e202_146, e202_149, e202_150, e202_153, e202_156, e202_157, e202_158, e202_159, e202_162, e202_165, e202_166, e202_167, e202_168, e202_171, e202_174, e202_175, am_k_some, va_rf_some, va_rf_none, tl_some, tl_none, am_clr_int, am_clr_ref, am_clr_none, am_clr_long, am_w_nil, am_w_int, am_w_ref, am_w_long, am_w_null, am_bb_0, am_bb_1, am_bb_bI, xK_sI, xR_sI, xS_sI, xN_sI, xK_sL, xR_sL, xS_sL, xN_sL, xK_sR, xR_sR, xS_sR, xN_sR, xK_sA, xR_sA, xS_sA, xN_sA, Nat.reduceAdd, Nat.reduceLeDiff, sI_sA, I_sA', sA_sA, I_sA, I_sA', nI_add, mul_nI, bI_0, bI_1, h.k, h.r0, h.k0, h.r1, h.k1, h.r2, h.k2, h.r3, h.k3, h.r4, h.k4, h.r5, h.k5, h.r6, h.k6, h.r8, h.k8, h.r9, h.k9, h.r15, h.k15, h.r17, h.k17, h.r19, h.k19, h.r20, h.k20, h.r21, h.k21, h.r22, h.k22, ix_nI, cl_nI, lt_nI, eq_nI, sub_nI, Nat.reduceEqDiff, Nat.one_ne_zero, Nat.not_lt_zero, ↓reduceIte, k1, k2, k3, k4, k5, k6, k7, k8, k9, n10, n01, if_true, if_false, decide_true, decide_false, Bool.true_eq_false, Bool.false_eq_true, not_true_eq_false, not_false_eq_true, and_true, true_and, and_false, false_and, sp_148, hS, a1, e1, e202_70, e202_71, e2, t4, t5, u3, v5, w5, hc]
  · rw [if_neg hc]
    simp (disch := first | (simp (disch := omega) only [am_k_some, va_rf_some, va_rf_none, tl_some, tl_none, am_clr_int, am_clr_ref, am_clr_none, am_clr_long, am_w_nil, am_w_int, am_w_ref, am_w_long, am_w_null, am_bb_0, am_bb_1, am_bb_bI, xK_sI, xR_sI, xS_sI, xN_sI, xK_sL, xR_sL, xS_sL, xN_sL, xK_sR, xR_sR, xS_sR, xN_sR, xK_sA, xR_sA, xS_sA, xN_sA, Nat.reduceAdd, Nat.reduceLeDiff, sI_sA, I_sA', sA_sA, I_sA, I_sA', nI_add, mul_nI, bI_0, bI_1, h.k, h.r0, h.k0, h.r1, h.k1, h.r2, h.k2, h.r3, h.k3, h.r4, h.k4, h.r5, h.k5, h.r6, h.k6, h.r8, h.k8, h.r9, h.k9, h.r15, h.k15, h.r17, h.k17, h.r19, h.k19, h.r20, h.k20, h.r21, h.k21, h.r22, h.k22, h, Mo_sA, Mo_sL, ix_nI, cl_nI]; done) | omega | (simp only [I_sA]; assumption)) only [c202, e202_0, e202_1, e202_4, e202_7, e202_9, e202_10, e202_11, e202_14, e202_17, e202_18, e202_19, e202_20, e202_23, e202_26, e202_27, e202_28, e202_29, e202_32, e202_35, e202_36, e202_37, e202_38, e202_40, e202_42, e202_45, e202_46, e202_47, e202_48, e202_51, e202_52, e202_53, e202_54, e202_57, e202_58, e202_59, e202_60, e202_61, e202_64, e202_67, e202_71, e202_73, e202_74, e202_77, e202_80, e202_81, e202_84, e202_85, e202_86, e202_89, e202_92, e202_93, e202_94, e202_95, e202_96, e202_99, e202_102, e202_105, e202_106, e202_109, e202_112, e202_113, e202_114, e202_115, e202_118, e202_121, e202_122, e202_123, e202_124, e202_125, e202_128, e202_131, e202_132, e202_133, e202_134, e202_135, e202_136, e202_137, e202_138, e202_139, e202_142, e202_145, e202_146, e202_149, e202_150, e202_153, e202_156, e202_157, e202_158, e202_159, e202_162, e202_165, e202_166, e202_167, e202_168, e202_171, e202_174, e202_175, am_k_some, va_rf_some, va_rf_none, tl_some, tl_none, am_clr_int, am_clr_ref, am_clr_none, am_clr_long, am_w_nil, am_w_int, am_w_ref, am_w_long, am_w_null, am_bb_0, am_bb_1, am_bb_bI, xK_sI, xR_sI, xS_sI, xN_sI, xK_sL, xR_sL, xS_sL, xN_sL, xK_sR, xR_sR, xS_sR, xN_sR, xK_sA, xR_sA, xS_sA, xN_sA, Nat.reduceAdd, Nat.reduceLeDiff, sI_sA, I_sA', sA_sA, I_sA, I_sA', nI_add, mul_nI, bI_0, bI_1, h.k, h.r0, h.k0, h.r1, h.k1, h.r2, h.k2, h.r3, h.k3, h.r4, h.k4, h.r5, h.k5, h.r6, h.k6, h.r8, h.k8, h.r9, h.k9, h.r15, h.k15, h.r17, h.k17, h.r19, h.k19, h.r20, h.k20, h.r21, h.k21, h.r22, h.k22, ix_nI, cl_nI, lt_nI, eq_nI, sub_nI, Nat.reduceEqDiff, Nat.one_ne_zero, Nat.not_lt_zero, ↓reduceIte, k1, k2, k3, k4, k5, k6, k7, k8, k9, n10, n01, if_true, if_false, decide_true, decide_false, Bool.true_eq_false, Bool.false_eq_true, not_true_eq_false, not_false_eq_true, and_true, true_and, and_false, false_and, sp_148, hS, a1, e1, e202_70, e202_71, e2, t4, t5, u3, v5, w5, hc]
