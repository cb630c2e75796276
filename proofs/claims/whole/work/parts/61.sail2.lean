/-! findStuckPort, countBound, setSail -/
theorem GtR.st {S : Nat → Int32} {i : Nat} {x : Int32} {F : Nat → Int32} (h : GtR S i x F) : (F 0 = -2) = (efA S i x = -1) := by
  apply propext
  rcases h with ⟨h1, h2, -⟩ | ⟨h1, h2, -⟩ | ⟨e, he, h1, h2, -⟩
  · rw [h1, h2]; decide
  · rw [h1, h2]; decide
  · rw [h1, h2]
    rcases he with rfl | rfl <;> decide
theorem sp_81_in {d a R p : Nat} {m : am_M} {S : Nat → Int32} {L : Int64} (k : ShK m a) (v : ShV m a S L) (W : Wf S) (kr : mK m R = (1, 6, 0)) : ∀ r i (F : Nat → Int32), i + r = 20 → ∃ F' : Nat → Int32,
    ev (d + 4) 81 12 [some (.ref a), some (.ref R), some (.int (nI p)), some (.int (nI i))] [] (sA m (a + 25) F) = match fstR (skL S (nI p)) r i with | some j => some (some (.int (nI 1)), reM (sA m (a + 25) F') R (nI p).toInt64 0 0 (nI j).toInt64) | none => ev (d + 4) 81 66 [some (.ref a), some (.ref R), some (.int (nI p)), some (.int (nI 20))] [] (sA m (a + 25) F') := by
  intro r
  induction r with
  | zero =>
    intro i F hi
    have hi' : i = 20 := by omega
    subst hi'
    have hnl : ¬ 20 < 20 := by omega
    refine ⟨F, ?_⟩
    rw [e81_12]
    simp (disch := first | (simp (disch := omega) only [am_k_some, va_rf_some, va_rf_none, tl_some, tl_none, am_clr_int, am_clr_ref, am_clr_none, am_clr_long, am_w_nil, am_w_int, am_w_ref, am_w_long, am_w_null, am_bb_0, am_bb_1, am_bb_bI, xK_sI, xR_sI, xS_sI, xN_sI, xK_sL, xR_sL, xS_sL, xN_sL, xK_sR, xR_sR, xS_sR, xN_sR, xK_sA, xR_sA, xS_sA, xN_sA, Nat.reduceAdd, Nat.reduceLeDiff, sI_sA, I_sA', sA_sA, I_sA, I_sA', nI_add, mul_nI, bI_0, bI_1, k.k, k.r0, k.k0, k.rl, k.r1, k.r10, k.ga, ix_nI, cl_nI]; done) | omega | assumption) only [e81_0, e81_1, e81_3, e81_4, e81_7, e81_10, e81_11, e81_13, e81_15, e81_18, e81_19, e81_22, e81_23, e81_26, e81_27, e81_28, e81_29, e81_32, e81_33, e81_36, e81_37, e81_40, e81_43, e81_45, e81_48, e81_49, e81_50, e81_51, e81_52, e81_53, e81_54, e81_55, e81_58, e81_59, e81_60, e81_63, e81_69, e81_72, e81_73, am_k_some, va_rf_some, va_rf_none, tl_some, tl_none, am_clr_int, am_clr_ref, am_clr_none, am_clr_long, am_w_nil, am_w_int, am_w_ref, am_w_long, am_w_null, am_bb_0, am_bb_1, am_bb_bI, xK_sI, xR_sI, xS_sI, xN_sI, xK_sL, xR_sL, xS_sL, xN_sL, xK_sR, xR_sR, xS_sR, xN_sR, xK_sA, xR_sA, xS_sA, xN_sA, Nat.reduceAdd, Nat.reduceLeDiff, sI_sA, I_sA', sA_sA, I_sA, I_sA', nI_add, mul_nI, bI_0, bI_1, k.k, k.r0, k.k0, k.rl, k.r1, k.r10, k.ga, ix_nI, cl_nI, lt_nI, eq_nI, sub_nI, Nat.reduceEqDiff, Nat.one_ne_zero, Nat.not_lt_zero, ↓reduceIte, hnl, fstR]
  | succ r ih =>
    intro i F hi
    have hnl : i < 20 := by omega
    have kl := k.la i hnl
    obtain ⟨F1, e1, g1⟩ := sp_6 (d := d) (x := nI p) (m := sA m (a + 25) F) (g := a + 25) (o := a + 26 + 2 * i) (lo := a + 2) (S := S) k.ga (ShV.gt k v.gate W.nm hnl) (by omega) (by omega) W.b hnl
    rw [sA_sA] at e1
    have st := fun x b c e => sp_57 (d := d + 3) (a := x) (b := b) (c := c) (e := e) (m := sA m (a + 25) F1) (R := R) kr
    have hst := g1.st
    rw [e81_12, fstR]
    unfold skL
    by_cases hx : efA S i (nI p) = -1
    · rw [eq_true hx] at hst
      have hst : F1 0 = -2 := of_eq_true hst
      refine ⟨F1, ?_⟩
      rw [decide_eq_true hx, if_pos rfl]
      simp (disch := first | (simp (disch := omega) only [am_k_some, va_rf_some, va_rf_none, tl_some, tl_none, am_clr_int, am_clr_ref, am_clr_none, am_clr_long, am_w_nil, am_w_int, am_w_ref, am_w_long, am_w_null, am_bb_0, am_bb_1, am_bb_bI, xK_sI, xR_sI, xS_sI, xN_sI, xK_sL, xR_sL, xS_sL, xN_sL, xK_sR, xR_sR, xS_sR, xN_sR, xK_sA, xR_sA, xS_sA, xN_sA, Nat.reduceAdd, Nat.reduceLeDiff, sI_sA, I_sA', sA_sA, I_sA, I_sA', nI_add, mul_nI, bI_0, bI_1, k.k, k.r0, k.k0, k.rl, k.r1, k.r10, k.ga, kl.k, kr, ix_nI, cl_nI]; done) | omega | assumption) only [e81_0, e81_1, e81_3, e81_4, e81_7, e81_10, e81_11, e81_13, e81_15, e81_18, e81_19, e81_22, e81_23, e81_26, e81_27, e81_28, e81_29, e81_32, e81_33, e81_36, e81_37, e81_40, e81_43, e81_45, e81_48, e81_49, e81_50, e81_51, e81_52, e81_53, e81_54, e81_55, e81_58, e81_59, e81_60, e81_63, e81_69, e81_72, e81_73, am_k_some, va_rf_some, va_rf_none, tl_some, tl_none, am_clr_int, am_clr_ref, am_clr_none, am_clr_long, am_w_nil, am_w_int, am_w_ref, am_w_long, am_w_null, am_bb_0, am_bb_1, am_bb_bI, xK_sI, xR_sI, xS_sI, xN_sI, xK_sL, xR_sL, xS_sL, xN_sL, xK_sR, xR_sR, xS_sR, xN_sR, xK_sA, xR_sA, xS_sA, xN_sA, Nat.reduceAdd, Nat.reduceLeDiff, sI_sA, I_sA', sA_sA, I_sA, I_sA', nI_add, mul_nI, bI_0, bI_1, k.k, k.r0, k.k0, k.rl, k.r1, k.r10, k.ga, ix_nI, cl_nI, lt_nI, eq_nI, sub_nI, Nat.reduceEqDiff, Nat.one_ne_zero, Nat.not_lt_zero, ↓reduceIte, k1, k2, k3, k4, k5, k6, k7, k8, k9, n10, n01, if_true, if_false, decide_true, decide_false, Bool.true_eq_false, Bool.false_eq_true, not_true_eq_false, not_false_eq_true, and_true, true_and, and_false, false_and, hnl, e1, hst, st]
    · rw [eq_false hx] at hst
      have hst : ¬ F1 0 = -2 := of_eq_false hst
      obtain ⟨F', e2⟩ := ih (i + 1) F1 (by omega)
      refine ⟨F', ?_⟩
      rw [decide_eq_false hx, if_neg (by decide)]
      simp (disch := first | (simp (disch := omega) only [am_k_some, va_rf_some, va_rf_none, tl_some, tl_none, am_clr_int, am_clr_ref, am_clr_none, am_clr_long, am_w_nil, am_w_int, am_w_ref, am_w_long, am_w_null, am_bb_0, am_bb_1, am_bb_bI, xK_sI, xR_sI, xS_sI, xN_sI, xK_sL, xR_sL, xS_sL, xN_sL, xK_sR, xR_sR, xS_sR, xN_sR, xK_sA, xR_sA, xS_sA, xN_sA, Nat.reduceAdd, Nat.reduceLeDiff, sI_sA, I_sA', sA_sA, I_sA, I_sA', nI_add, mul_nI, bI_0, bI_1, k.k, k.r0, k.k0, k.rl, k.r1, k.r10, k.ga, kl.k, ix_nI, cl_nI]; done) | omega | assumption) only [e81_0, e81_1, e81_3, e81_4, e81_7, e81_10, e81_11, e81_13, e81_15, e81_18, e81_19, e81_22, e81_23, e81_26, e81_27, e81_28, e81_29, e81_32, e81_33, e81_36, e81_37, e81_40, e81_43, e81_45, e81_48, e81_49, e81_50, e81_51, e81_52, e81_53, e81_54, e81_55, e81_58, e81_59, e81_60, e81_63, e81_69, e81_72, e81_73, am_k_some, va_rf_some, va_rf_none, tl_some, tl_none, am_clr_int, am_clr_ref, am_clr_none, am_clr_long, am_w_nil, am_w_int, am_w_ref, am_w_long, am_w_null, am_bb_0, am_bb_1, am_bb_bI, xK_sI, xR_sI, xS_sI, xN_sI, xK_sL, xR_sL, xS_sL, xN_sL, xK_sR, xR_sR, xS_sR, xN_sR, xK_sA, xR_sA, xS_sA, xN_sA, Nat.reduceAdd, Nat.reduceLeDiff, sI_sA, I_sA', sA_sA, I_sA, I_sA', nI_add, mul_nI, bI_0, bI_1, k.k, k.r0, k.k0, k.rl, k.r1, k.r10, k.ga, ix_nI, cl_nI, lt_nI, eq_nI, sub_nI, Nat.reduceEqDiff, Nat.one_ne_zero, Nat.not_lt_zero, ↓reduceIte, k1, k2, k3, k4, k5, k6, k7, k8, k9, n10, n01, if_true, if_false, decide_true, decide_false, Bool.true_eq_false, Bool.false_eq_true, not_true_eq_false, not_false_eq_true, and_true, true_and, and_false, false_and, hnl, e1, hst]
      exact e2
theorem sp_81_out {d a R : Nat} {m : am_M} {S : Nat → Int32} {L : Int64} (k : ShK m a) (v : ShV m a S L) (W : Wf S) (kr : mK m R = (1, 6, 0)) : ∀ r p (F : Nat → Int32) (x3 : Option Value), p + r = (S 6503).toNatClampNeg → ∃ F' : Nat → Int32,
    ev (d + 4) 81 2 [some (.ref a), some (.ref R), some (.int (nI p)), x3] [] (sA m (a + 25) F) = match fstR (skB S) r p with | some j => some (some (.int (nI 1)), reM (sA m (a + 25) F') R (nI j).toInt64 0 0 (skA S (nI j)).toInt64) | none => some (some (.int (nI 0)), sA m (a + 25) F') := by
  obtain ⟨d1, d2, d3⟩ := dy_ok W.y
  have hp : mI m a 7 = nI (S 6503).toNatClampNeg := by rw [v.sc.2.1]; exact d1
  intro r
  induction r with
  | zero =>
    intro p F x3 hp2
    have hnl : ¬ p < (S 6503).toNatClampNeg := by omega
    refine ⟨F, ?_⟩
    rw [e81_2]
    simp (disch := first | (simp (disch := omega) only [am_k_some, va_rf_some, va_rf_none, tl_some, tl_none, am_clr_int, am_clr_ref, am_clr_none, am_clr_long, am_w_nil, am_w_int, am_w_ref, am_w_long, am_w_null, am_bb_0, am_bb_1, am_bb_bI, xK_sI, xR_sI, xS_sI, xN_sI, xK_sL, xR_sL, xS_sL, xN_sL, xK_sR, xR_sR, xS_sR, xN_sR, xK_sA, xR_sA, xS_sA, xN_sA, Nat.reduceAdd, Nat.reduceLeDiff, sI_sA, I_sA', sA_sA, I_sA, I_sA', nI_add, mul_nI, bI_0, bI_1, k.k, k.r0, k.k0, k.rl, k.r1, k.r10, k.ga, ix_nI, cl_nI]; done) | omega | assumption) only [e81_0, e81_1, e81_3, e81_4, e81_7, e81_10, e81_11, e81_13, e81_15, e81_18, e81_19, e81_22, e81_23, e81_26, e81_27, e81_28, e81_29, e81_32, e81_33, e81_36, e81_37, e81_40, e81_43, e81_45, e81_48, e81_49, e81_50, e81_51, e81_52, e81_53, e81_54, e81_55, e81_58, e81_59, e81_60, e81_63, e81_69, e81_72, e81_73, am_k_some, va_rf_some, va_rf_none, tl_some, tl_none, am_clr_int, am_clr_ref, am_clr_none, am_clr_long, am_w_nil, am_w_int, am_w_ref, am_w_long, am_w_null, am_bb_0, am_bb_1, am_bb_bI, xK_sI, xR_sI, xS_sI, xN_sI, xK_sL, xR_sL, xS_sL, xN_sL, xK_sR, xR_sR, xS_sR, xN_sR, xK_sA, xR_sA, xS_sA, xN_sA, Nat.reduceAdd, Nat.reduceLeDiff, sI_sA, I_sA', sA_sA, I_sA, I_sA', nI_add, mul_nI, bI_0, bI_1, k.k, k.r0, k.k0, k.rl, k.r1, k.r10, k.ga, ix_nI, cl_nI, lt_nI, eq_nI, sub_nI, Nat.reduceEqDiff, Nat.one_ne_zero, Nat.not_lt_zero, ↓reduceIte, hp, hnl, fstR]
  | succ r ih =>
    intro p F x3 hp2
    have hnl : p < (S 6503).toNatClampNeg := by omega
    obtain ⟨F1, e1⟩ := sp_81_in (d := d) (p := p) k v W kr 20 0 F rfl
    rw [e81_2, fstR]
    unfold skB
    cases hx : fstR (skL S (nI p)) 20 0 with
    | some j =>
      obtain ⟨s1, s2⟩ := skA_some hx
      rw [hx] at e1
      have z : ¬ nI j < nI 0 := by rw [lt_nI (by omega) (by omega)]; omega
      refine ⟨F1, ?_⟩
      rw [s1, decide_eq_false z, Bool.not_false, if_pos rfl]
      simp (disch := first | (simp (disch := omega) only [am_k_some, va_rf_some, va_rf_none, tl_some, tl_none, am_clr_int, am_clr_ref, am_clr_none, am_clr_long, am_w_nil, am_w_int, am_w_ref, am_w_long, am_w_null, am_bb_0, am_bb_1, am_bb_bI, xK_sI, xR_sI, xS_sI, xN_sI, xK_sL, xR_sL, xS_sL, xN_sL, xK_sR, xR_sR, xS_sR, xN_sR, xK_sA, xR_sA, xS_sA, xN_sA, Nat.reduceAdd, Nat.reduceLeDiff, sI_sA, I_sA', sA_sA, I_sA, I_sA', nI_add, mul_nI, bI_0, bI_1, k.k, k.r0, k.k0, k.rl, k.r1, k.r10, k.ga, ix_nI, cl_nI]; done) | omega | assumption) only [e81_0, e81_1, e81_3, e81_4, e81_7, e81_10, e81_11, e81_13, e81_15, e81_18, e81_19, e81_22, e81_23, e81_26, e81_27, e81_28, e81_29, e81_32, e81_33, e81_36, e81_37, e81_40, e81_43, e81_45, e81_48, e81_49, e81_50, e81_51, e81_52, e81_53, e81_54, e81_55, e81_58, e81_59, e81_60, e81_63, e81_69, e81_72, e81_73, am_k_some, va_rf_some, va_rf_none, tl_some, tl_none, am_clr_int, am_clr_ref, am_clr_none, am_clr_long, am_w_nil, am_w_int, am_w_ref, am_w_long, am_w_null, am_bb_0, am_bb_1, am_bb_bI, xK_sI, xR_sI, xS_sI, xN_sI, xK_sL, xR_sL, xS_sL, xN_sL, xK_sR, xR_sR, xS_sR, xN_sR, xK_sA, xR_sA, xS_sA, xN_sA, Nat.reduceAdd, Nat.reduceLeDiff, sI_sA, I_sA', sA_sA, I_sA, I_sA', nI_add, mul_nI, bI_0, bI_1, k.k, k.r0, k.k0, k.rl, k.r1, k.r10, k.ga, ix_nI, cl_nI, lt_nI, eq_nI, sub_nI, Nat.reduceEqDiff, Nat.one_ne_zero, Nat.not_lt_zero, ↓reduceIte, k1, k2, k3, k4, k5, k6, k7, k8, k9, n10, n01, if_true, if_false, decide_true, decide_false, Bool.true_eq_false, Bool.false_eq_true, not_true_eq_false, not_false_eq_true, and_true, true_and, and_false, false_and, hp, hnl, e1, s1]
    | none =>
      rw [hx] at e1
      obtain ⟨F', e2⟩ := ih (p + 1) F1 (some (.int (nI 20))) (by omega)
      refine ⟨F', ?_⟩
      rw [skA_none hx, decide_eq_true u1, Bool.not_true, if_neg (by decide)]
      simp (disch := first | (simp (disch := omega) only [am_k_some, va_rf_some, va_rf_none, tl_some, tl_none, am_clr_int, am_clr_ref, am_clr_none, am_clr_long, am_w_nil, am_w_int, am_w_ref, am_w_long, am_w_null, am_bb_0, am_bb_1, am_bb_bI, xK_sI, xR_sI, xS_sI, xN_sI, xK_sL, xR_sL, xS_sL, xN_sL, xK_sR, xR_sR, xS_sR, xN_sR, xK_sA, xR_sA, xS_sA, xN_sA, Nat.reduceAdd, Nat.reduceLeDiff, sI_sA, I_sA', sA_sA, I_sA, I_sA', nI_add, mul_nI, bI_0, bI_1, k.k, k.r0, k.k0, k.rl, k.r1, k.r10, k.ga, ix_nI, cl_nI]; done) | omega | assumption) only [e81_0, e81_1, e81_3, e81_4, e81_7, e81_10, e81_11, e81_13, e81_15, e81_18, e81_19, e81_22, e81_23, e81_26, e81_27, e81_28, e81_29, e81_32, e81_33, e81_36, e81_37, e81_40, e81_43, e81_45, e81_48, e81_49, e81_50, e81_51, e81_52, e81_53, e81_54, e81_55, e81_58, e81_59, e81_60, e81_63, e81_69, e81_72, e81_73, am_k_some, va_rf_some, va_rf_none, tl_some, tl_none, am_clr_int, am_clr_ref, am_clr_none, am_clr_long, am_w_nil, am_w_int, am_w_ref, am_w_long, am_w_null, am_bb_0, am_bb_1, am_bb_bI, xK_sI, xR_sI, xS_sI, xN_sI, xK_sL, xR_sL, xS_sL, xN_sL, xK_sR, xR_sR, xS_sR, xN_sR, xK_sA, xR_sA, xS_sA, xN_sA, Nat.reduceAdd, Nat.reduceLeDiff, sI_sA, I_sA', sA_sA, I_sA, I_sA', nI_add, mul_nI, bI_0, bI_1, k.k, k.r0, k.k0, k.rl, k.r1, k.r10, k.ga, ix_nI, cl_nI, lt_nI, eq_nI, sub_nI, Nat.reduceEqDiff, Nat.one_ne_zero, Nat.not_lt_zero, ↓reduceIte, k1, k2, k3, k4, k5, k6, k7, k8, k9, n10, n01, if_true, if_false, decide_true, decide_false, Bool.true_eq_false, Bool.false_eq_true, not_true_eq_false, not_false_eq_true, and_true, true_and, and_false, false_and, hp, hnl, e1, e81_66, e2]
      rfl
theorem sp_81 {d a R : Nat} {m : am_M} {S : Nat → Int32} {L : Int64} (k : ShK m a) (v : ShV m a S L) (W : Wf S) (kr : mK m R = (1, 6, 0)) : ∃ F' : Nat → Int32,
    cal (d + 4) 81 [.ref a, .ref R] m = match fstR (skB S) (S 6503).toNatClampNeg 0 with | some j => some (some (.int (nI 1)), reM (sA m (a + 25) F') R (nI j).toInt64 0 0 (skA S (nI j)).toInt64) | none => some (some (.int (nI 0)), sA m (a + 25) F') := by
  obtain ⟨F', e⟩ := sp_81_out (d := d) k v W kr _ 0 (mI m (a + 25)) none (Nat.zero_add _)
  rw [sA_self] at e
  refine ⟨F', ?_⟩
  simp only [c81, e81_0, e81_1, e81_3, e81_4, e81_7, e81_10, e81_11, e81_13, e81_15, e81_18, e81_19, e81_22, e81_23, e81_26, e81_27, e81_28, e81_29, e81_32, e81_33, e81_36, e81_37, e81_40, e81_43, e81_45, e81_48, e81_49, e81_50, e81_51, e81_52, e81_53, e81_54, e81_55, e81_58, e81_59, e81_60, e81_63, e81_69, e81_72, e81_73, am_k_some, va_rf_some, va_rf_none, tl_some, tl_none, am_clr_int, am_clr_ref, am_clr_none, am_clr_long, am_w_nil, am_w_int, am_w_ref, am_w_long, am_w_null, am_bb_0, am_bb_1, am_bb_bI, xK_sI, xR_sI, xS_sI, xN_sI, xK_sL, xR_sL, xS_sL, xN_sL, xK_sR, xR_sR, xS_sR, xN_sR, xK_sA, xR_sA, xS_sA, xN_sA, Nat.reduceAdd, Nat.reduceLeDiff, sI_sA, I_sA', sA_sA, I_sA, I_sA', nI_add, mul_nI, bI_0, bI_1]
  exact e
/-! countBound -/
theorem GtR.way {S : Nat → Int32} {i : Nat} {x : Int32} {F : Nat → Int32} (h : GtR S i x F) (hx : ¬ efA S i x = -1) : F 1 = nI (bdL S x i) := by
  unfold bdL
  rcases h with ⟨h1, h2, h3⟩ | ⟨h1, h2, -⟩ | ⟨e, he, h1, h2, h3, -⟩
  · rw [h1, if_neg (by decide), h3]
  · exact absurd h1 hx
  · rw [h1, h3]
    rcases he with rfl | rfl
    · rw [if_pos (by decide)]
    · rw [if_pos (by decide)]
theorem sp_82_in {d a p s : Nat} {m : am_M} {S : Nat → Int32} {L : Int64} (k : ShK m a) (v : ShV m a S L) (W : Wf S) : ∀ r i (F : Nat → Int32), i + r = 20 → ∃ F' : Nat → Int32,
    ev (d + 4) 82 17 [some (.ref a), some (.int (nI (s + sumN (bdL S (nI p)) i))), some (.int (nI p)), some (.int (nI i))] [] (sA m (a + 25) F) = match fstR (skL S (nI p)) r i with | some _ => some (some (.int (-13)), sA m (a + 25) F') | none => ev (d + 4) 82 72 [some (.ref a), some (.int (nI (s + sumN (bdL S (nI p)) 20))), some (.int (nI p)), some (.int (nI 20))] [] (sA m (a + 25) F') := by
  intro r
  induction r with
  | zero =>
    intro i F hi
    have hi' : i = 20 := by omega
    subst hi'
    have hnl : ¬ 20 < 20 := by omega
    refine ⟨F, ?_⟩
    rw [e82_17]
    simp (disch := first | (simp (disch := omega) only [am_k_some, va_rf_some, va_rf_none, tl_some, tl_none, am_clr_int, am_clr_ref, am_clr_none, am_clr_long, am_w_nil, am_w_int, am_w_ref, am_w_long, am_w_null, am_bb_0, am_bb_1, am_bb_bI, xK_sI, xR_sI, xS_sI, xN_sI, xK_sL, xR_sL, xS_sL, xN_sL, xK_sR, xR_sR, xS_sR, xN_sR, xK_sA, xR_sA, xS_sA, xN_sA, Nat.reduceAdd, Nat.reduceLeDiff, sI_sA, I_sA', sA_sA, I_sA, I_sA', nI_add, mul_nI, bI_0, bI_1, k.k, k.r0, k.k0, k.rl, k.r1, k.r10, k.ga, ix_nI, cl_nI]; done) | omega | assumption) only [e82_0, e82_1, e82_2, e82_3, e82_6, e82_8, e82_9, e82_12, e82_15, e82_16, e82_18, e82_20, e82_23, e82_24, e82_27, e82_28, e82_31, e82_32, e82_33, e82_34, e82_37, e82_38, e82_41, e82_42, e82_45, e82_48, e82_50, e82_53, e82_55, e82_56, e82_57, e82_58, e82_61, e82_64, e82_65, e82_66, e82_69, e82_75, e82_78, e82_79, am_k_some, va_rf_some, va_rf_none, tl_some, tl_none, am_clr_int, am_clr_ref, am_clr_none, am_clr_long, am_w_nil, am_w_int, am_w_ref, am_w_long, am_w_null, am_bb_0, am_bb_1, am_bb_bI, xK_sI, xR_sI, xS_sI, xN_sI, xK_sL, xR_sL, xS_sL, xN_sL, xK_sR, xR_sR, xS_sR, xN_sR, xK_sA, xR_sA, xS_sA, xN_sA, Nat.reduceAdd, Nat.reduceLeDiff, sI_sA, I_sA', sA_sA, I_sA, I_sA', nI_add, mul_nI, bI_0, bI_1, k.k, k.r0, k.k0, k.rl, k.r1, k.r10, k.ga, ix_nI, cl_nI, lt_nI, eq_nI, sub_nI, Nat.reduceEqDiff, Nat.one_ne_zero, Nat.not_lt_zero, ↓reduceIte, hnl, fstR]
  | succ r ih =>
    intro i F hi
    have hnl : i < 20 := by omega
    have kl := k.la i hnl
    obtain ⟨F1, e1, g1⟩ := sp_6 (d := d) (x := nI p) (m := sA m (a + 25) F) (g := a + 25) (o := a + 26 + 2 * i) (lo := a + 2) (S := S) k.ga (ShV.gt k v.gate W.nm hnl) (by omega) (by omega) W.b hnl
    rw [sA_sA] at e1
    have hst := g1.st
    rw [e82_17, fstR]
    unfold skL
    by_cases hx : efA S i (nI p) = -1
    · rw [eq_true hx] at hst
      have hst : F1 0 = -2 := of_eq_true hst
      refine ⟨F1, ?_⟩
      rw [decide_eq_true hx, if_pos rfl]
      simp (disch := first | (simp (disch := omega) only [am_k_some, va_rf_some, va_rf_none, tl_some, tl_none, am_clr_int, am_clr_ref, am_clr_none, am_clr_long, am_w_nil, am_w_int, am_w_ref, am_w_long, am_w_null, am_bb_0, am_bb_1, am_bb_bI, xK_sI, xR_sI, xS_sI, xN_sI, xK_sL, xR_sL, xS_sL, xN_sL, xK_sR, xR_sR, xS_sR, xN_sR, xK_sA, xR_sA, xS_sA, xN_sA, Nat.reduceAdd, Nat.reduceLeDiff, sI_sA, I_sA', sA_sA, I_sA, I_sA', nI_add, mul_nI, bI_0, bI_1, k.k, k.r0, k.k0, k.rl, k.r1, k.r10, k.ga, kl.k, ix_nI, cl_nI]; done) | omega | assumption) only [e82_0, e82_1, e82_2, e82_3, e82_6, e82_8, e82_9, e82_12, e82_15, e82_16, e82_18, e82_20, e82_23, e82_24, e82_27, e82_28, e82_31, e82_32, e82_33, e82_34, e82_37, e82_38, e82_41, e82_42, e82_45, e82_48, e82_50, e82_53, e82_55, e82_56, e82_57, e82_58, e82_61, e82_64, e82_65, e82_66, e82_69, e82_75, e82_78, e82_79, am_k_some, va_rf_some, va_rf_none, tl_some, tl_none, am_clr_int, am_clr_ref, am_clr_none, am_clr_long, am_w_nil, am_w_int, am_w_ref, am_w_long, am_w_null, am_bb_0, am_bb_1, am_bb_bI, xK_sI, xR_sI, xS_sI, xN_sI, xK_sL, xR_sL, xS_sL, xN_sL, xK_sR, xR_sR, xS_sR, xN_sR, xK_sA, xR_sA, xS_sA, xN_sA, Nat.reduceAdd, Nat.reduceLeDiff, sI_sA, I_sA', sA_sA, I_sA, I_sA', nI_add, mul_nI, bI_0, bI_1, k.k, k.r0, k.k0, k.rl, k.r1, k.r10, k.ga, ix_nI, cl_nI, lt_nI, eq_nI, sub_nI, Nat.reduceEqDiff, Nat.one_ne_zero, Nat.not_lt_zero, ↓reduceIte, k1, k2, k3, k4, k5, k6, k7, k8, k9, n10, n01, if_true, if_false, decide_true, decide_false, Bool.true_eq_false, Bool.false_eq_true, not_true_eq_false, not_false_eq_true, and_true, true_and, and_false, false_and, hnl, e1, hst]
    · rw [eq_false hx] at hst
      have hst : ¬ F1 0 = -2 := of_eq_false hst
      have hw := g1.way hx
      obtain ⟨F', e2⟩ := ih (i + 1) F1 (by omega)
      rw [sumN, ← Nat.add_assoc] at e2
      refine ⟨F', ?_⟩
      rw [decide_eq_false hx, if_neg (by decide)]
      simp (disch := first | (simp (disch := omega) only [am_k_some, va_rf_some, va_rf_none, tl_some, tl_none, am_clr_int, am_clr_ref, am_clr_none, am_clr_long, am_w_nil, am_w_int, am_w_ref, am_w_long, am_w_null, am_bb_0, am_bb_1, am_bb_bI, xK_sI, xR_sI, xS_sI, xN_sI, xK_sL, xR_sL, xS_sL, xN_sL, xK_sR, xR_sR, xS_sR, xN_sR, xK_sA, xR_sA, xS_sA, xN_sA, Nat.reduceAdd, Nat.reduceLeDiff, sI_sA, I_sA', sA_sA, I_sA, I_sA', nI_add, mul_nI, bI_0, bI_1, k.k, k.r0, k.k0, k.rl, k.r1, k.r10, k.ga, kl.k, ix_nI, cl_nI]; done) | omega | assumption) only [e82_0, e82_1, e82_2, e82_3, e82_6, e82_8, e82_9, e82_12, e82_15, e82_16, e82_18, e82_20, e82_23, e82_24, e82_27, e82_28, e82_31, e82_32, e82_33, e82_34, e82_37, e82_38, e82_41, e82_42, e82_45, e82_48, e82_50, e82_53, e82_55, e82_56, e82_57, e82_58, e82_61, e82_64, e82_65, e82_66, e82_69, e82_75, e82_78, e82_79, am_k_some, va_rf_some, va_rf_none, tl_some, tl_none, am_clr_int, am_clr_ref, am_clr_none, am_clr_long, am_w_nil, am_w_int, am_w_ref, am_w_long, am_w_null, am_bb_0, am_bb_1, am_bb_bI, xK_sI, xR_sI, xS_sI, xN_sI, xK_sL, xR_sL, xS_sL, xN_sL, xK_sR, xR_sR, xS_sR, xN_sR, xK_sA, xR_sA, xS_sA, xN_sA, Nat.reduceAdd, Nat.reduceLeDiff, sI_sA, I_sA', sA_sA, I_sA, I_sA', nI_add, mul_nI, bI_0, bI_1, k.k, k.r0, k.k0, k.rl, k.r1, k.r10, k.ga, ix_nI, cl_nI, lt_nI, eq_nI, sub_nI, Nat.reduceEqDiff, Nat.one_ne_zero, Nat.not_lt_zero, ↓reduceIte, k1, k2, k3, k4, k5, k6, k7, k8, k9, n10, n01, if_true, if_false, decide_true, decide_false, Bool.true_eq_false, Bool.false_eq_true, not_true_eq_false, not_false_eq_true, and_true, true_and, and_false, false_and, hnl, e1, hst, hw]
      exact e2
theorem sp_82_out {d a : Nat} {m : am_M} {S : Nat → Int32} {L : Int64} (k : ShK m a) (v : ShV m a S L) (W : Wf S) : ∀ r p s (F : Nat → Int32) (x3 : Option Value), p + r = (S 6503).toNatClampNeg → ∃ F' : Nat → Int32,
    ev (d + 4) 82 7 [some (.ref a), some (.int (nI s)), some (.int (nI p)), x3] [] (sA m (a + 25) F) = some (some (.int (bdP S r p s)), sA m (a + 25) F') := by
  obtain ⟨d1, d2, d3⟩ := dy_ok W.y
  have hp : mI m a 7 = nI (S 6503).toNatClampNeg := by rw [v.sc.2.1]; exact d1
  intro r
  induction r with
  | zero =>
    intro p s F x3 hp2
    have hnl : ¬ p < (S 6503).toNatClampNeg := by omega
    refine ⟨F, ?_⟩
    rw [e82_7]
    simp (disch := first | (simp (disch := omega) only [am_k_some, va_rf_some, va_rf_none, tl_some, tl_none, am_clr_int, am_clr_ref, am_clr_none, am_clr_long, am_w_nil, am_w_int, am_w_ref, am_w_long, am_w_null, am_bb_0, am_bb_1, am_bb_bI, xK_sI, xR_sI, xS_sI, xN_sI, xK_sL, xR_sL, xS_sL, xN_sL, xK_sR, xR_sR, xS_sR, xN_sR, xK_sA, xR_sA, xS_sA, xN_sA, Nat.reduceAdd, Nat.reduceLeDiff, sI_sA, I_sA', sA_sA, I_sA, I_sA', nI_add, mul_nI, bI_0, bI_1, k.k, k.r0, k.k0, k.rl, k.r1, k.r10, k.ga, ix_nI, cl_nI]; done) | omega | assumption) only [e82_0, e82_1, e82_2, e82_3, e82_6, e82_8, e82_9, e82_12, e82_15, e82_16, e82_18, e82_20, e82_23, e82_24, e82_27, e82_28, e82_31, e82_32, e82_33, e82_34, e82_37, e82_38, e82_41, e82_42, e82_45, e82_48, e82_50, e82_53, e82_55, e82_56, e82_57, e82_58, e82_61, e82_64, e82_65, e82_66, e82_69, e82_75, e82_78, e82_79, am_k_some, va_rf_some, va_rf_none, tl_some, tl_none, am_clr_int, am_clr_ref, am_clr_none, am_clr_long, am_w_nil, am_w_int, am_w_ref, am_w_long, am_w_null, am_bb_0, am_bb_1, am_bb_bI, xK_sI, xR_sI, xS_sI, xN_sI, xK_sL, xR_sL, xS_sL, xN_sL, xK_sR, xR_sR, xS_sR, xN_sR, xK_sA, xR_sA, xS_sA, xN_sA, Nat.reduceAdd, Nat.reduceLeDiff, sI_sA, I_sA', sA_sA, I_sA, I_sA', nI_add, mul_nI, bI_0, bI_1, k.k, k.r0, k.k0, k.rl, k.r1, k.r10, k.ga, ix_nI, cl_nI, lt_nI, eq_nI, sub_nI, Nat.reduceEqDiff, Nat.one_ne_zero, Nat.not_lt_zero, ↓reduceIte, hp, hnl, bdP]
  | succ r ih =>
    intro p s F x3 hp2
    have hnl : p < (S 6503).toNatClampNeg := by omega
    obtain ⟨F1, e1⟩ := sp_82_in (d := d) (p := p) (s := s) k v W 20 0 F rfl
    have z : s + sumN (bdL S (nI p)) 0 = s := rfl
    rw [z] at e1
    rw [e82_7, bdP]
    cases hx : fstR (skL S (nI p)) 20 0 with
    | some j =>
      obtain ⟨s1, s2⟩ := skA_some hx
      rw [hx] at e1
      have z : ¬ nI j < nI 0 := by rw [lt_nI (by omega) (by omega)]; omega
      refine ⟨F1, ?_⟩
      rw [s1, if_neg z]
      simp (disch := first | (simp (disch := omega) only [am_k_some, va_rf_some, va_rf_none, tl_some, tl_none, am_clr_int, am_clr_ref, am_clr_none, am_clr_long, am_w_nil, am_w_int, am_w_ref, am_w_long, am_w_null, am_bb_0, am_bb_1, am_bb_bI, xK_sI, xR_sI, xS_sI, xN_sI, xK_sL, xR_sL, xS_sL, xN_sL, xK_sR, xR_sR, xS_sR, xN_sR, xK_sA, xR_sA, xS_sA, xN_sA, Nat.reduceAdd, Nat.reduceLeDiff, sI_sA, I_sA', sA_sA, I_sA, I_sA', nI_add, mul_nI, bI_0, bI_1, k.k, k.r0, k.k0, k.rl, k.r1, k.r10, k.ga, ix_nI, cl_nI]; done) | omega | assumption) only [e82_0, e82_1, e82_2, e82_3, e82_6, e82_8, e82_9, e82_12, e82_15, e82_16, e82_18, e82_20, e82_23, e82_24, e82_27, e82_28, e82_31, e82_32, e82_33, e82_34, e82_37, e82_38, e82_41, e82_42, e82_45, e82_48, e82_50, e82_53, e82_55, e82_56, e82_57, e82_58, e82_61, e82_64, e82_65, e82_66, e82_69, e82_75, e82_78, e82_79, am_k_some, va_rf_some, va_rf_none, tl_some, tl_none, am_clr_int, am_clr_ref, am_clr_none, am_clr_long, am_w_nil, am_w_int, am_w_ref, am_w_long, am_w_null, am_bb_0, am_bb_1, am_bb_bI, xK_sI, xR_sI, xS_sI, xN_sI, xK_sL, xR_sL, xS_sL, xN_sL, xK_sR, xR_sR, xS_sR, xN_sR, xK_sA, xR_sA, xS_sA, xN_sA, Nat.reduceAdd, Nat.reduceLeDiff, sI_sA, I_sA', sA_sA, I_sA, I_sA', nI_add, mul_nI, bI_0, bI_1, k.k, k.r0, k.k0, k.rl, k.r1, k.r10, k.ga, ix_nI, cl_nI, lt_nI, eq_nI, sub_nI, Nat.reduceEqDiff, Nat.one_ne_zero, Nat.not_lt_zero, ↓reduceIte, k1, k2, k3, k4, k5, k6, k7, k8, k9, n10, n01, if_true, if_false, decide_true, decide_false, Bool.true_eq_false, Bool.false_eq_true, not_true_eq_false, not_false_eq_true, and_true, true_and, and_false, false_and, hp, hnl, e1]
    | none =>
      rw [hx] at e1
      obtain ⟨F', e2⟩ := ih (p + 1) (s + sumN (bdL S (nI p)) 20) F1 (some (.int (nI 20))) (by omega)
      refine ⟨F', ?_⟩
      rw [skA_none hx, if_pos u1]
      simp (disch := first | (simp (disch := omega) only [am_k_some, va_rf_some, va_rf_none, tl_some, tl_none, am_clr_int, am_clr_ref, am_clr_none, am_clr_long, am_w_nil, am_w_int, am_w_ref, am_w_long, am_w_null, am_bb_0, am_bb_1, am_bb_bI, xK_sI, xR_sI, xS_sI, xN_sI, xK_sL, xR_sL, xS_sL, xN_sL, xK_sR, xR_sR, xS_sR, xN_sR, xK_sA, xR_sA, xS_sA, xN_sA, Nat.reduceAdd, Nat.reduceLeDiff, sI_sA, I_sA', sA_sA, I_sA, I_sA', nI_add, mul_nI, bI_0, bI_1, k.k, k.r0, k.k0, k.rl, k.r1, k.r10, k.ga, ix_nI, cl_nI]; done) | omega | assumption) only [e82_0, e82_1, e82_2, e82_3, e82_6, e82_8, e82_9, e82_12, e82_15, e82_16, e82_18, e82_20, e82_23, e82_24, e82_27, e82_28, e82_31, e82_32, e82_33, e82_34, e82_37, e82_38, e82_41, e82_42, e82_45, e82_48, e82_50, e82_53, e82_55, e82_56, e82_57, e82_58, e82_61, e82_64, e82_65, e82_66, e82_69, e82_75, e82_78, e82_79, am_k_some, va_rf_some, va_rf_none, tl_some, tl_none, am_clr_int, am_clr_ref, am_clr_none, am_clr_long, am_w_nil, am_w_int, am_w_ref, am_w_long, am_w_null, am_bb_0, am_bb_1, am_bb_bI, xK_sI, xR_sI, xS_sI, xN_sI, xK_sL, xR_sL, xS_sL, xN_sL, xK_sR, xR_sR, xS_sR, xN_sR, xK_sA, xR_sA, xS_sA, xN_sA, Nat.reduceAdd, Nat.reduceLeDiff, sI_sA, I_sA', sA_sA, I_sA, I_sA', nI_add, mul_nI, bI_0, bI_1, k.k, k.r0, k.k0, k.rl, k.r1, k.r10, k.ga, ix_nI, cl_nI, lt_nI, eq_nI, sub_nI, Nat.reduceEqDiff, Nat.one_ne_zero, Nat.not_lt_zero, ↓reduceIte, k1, k2, k3, k4, k5, k6, k7, k8, k9, n10, n01, if_true, if_false, decide_true, decide_false, Bool.true_eq_false, Bool.false_eq_true, not_true_eq_false, not_false_eq_true, and_true, true_and, and_false, false_and, hp, hnl, e1, e82_72, e2]
theorem p0_eq {S : Nat → Int32} (hY : DyOk S) : (if S 6502 < nI 0 then nI 0 else S 6502) = nI (p0S S) ∧ p0S S ≤ (S 6503).toNatClampNeg := by
  obtain ⟨d1, d2, d3⟩ := dy_ok hY
  rcases hY with ⟨-, ⟨a1, a2⟩ | ⟨a1, p, a2, a3⟩⟩
  · have hp : p0S S = 0 := by unfold p0S; rw [if_neg]; rw [a1]; decide
    rw [hp, a2, if_pos u1]
    exact ⟨rfl, by omega⟩
  · have hp : p0S S = p := by unfold p0S; rw [if_pos a1, a2]; exact cl_nI (by omega)
    rw [hp, a2, if_neg (by rw [lt_nI (by omega) (by omega)]; omega)]
    exact ⟨rfl, by omega⟩
theorem sp_82 {d a : Nat} {m : am_M} {S : Nat → Int32} {L : Int64} (k : ShK m a) (v : ShV m a S L) (W : Wf S) : ∃ F' : Nat → Int32, cal (d + 4) 82 [.ref a] m = some (some (.int (bdA S)), sA m (a + 25) F') := by
  obtain ⟨q1, q2⟩ := p0_eq W.y
  obtain ⟨F', e⟩ := sp_82_out (d := d) k v W ((S 6503).toNatClampNeg - p0S S) (p0S S) 0 (mI m (a + 25)) none (by omega)
  rw [sA_self] at e
  have f := sp_66 (d := d + 3) k
  rw [v.sc.2.2.2, q1] at f
  refine ⟨F', ?_⟩
  simp (disch := first | (simp (disch := omega) only [am_k_some, va_rf_some, va_rf_none, tl_some, tl_none, am_clr_int, am_clr_ref, am_clr_none, am_clr_long, am_w_nil, am_w_int, am_w_ref, am_w_long, am_w_null, am_bb_0, am_bb_1, am_bb_bI, xK_sI, xR_sI, xS_sI, xN_sI, xK_sL, xR_sL, xS_sL, xN_sL, xK_sR, xR_sR, xS_sR, xN_sR, xK_sA, xR_sA, xS_sA, xN_sA, Nat.reduceAdd, Nat.reduceLeDiff, sI_sA, I_sA', sA_sA, I_sA, I_sA', nI_add, mul_nI, bI_0, bI_1, k.k, k.r0, k.k0, k.rl, k.r1, k.r10, k.ga, ix_nI, cl_nI]; done) | omega | assumption) only [c82, e82_0, e82_1, e82_2, e82_3, e82_6, e82_8, e82_9, e82_12, e82_15, e82_16, e82_18, e82_20, e82_23, e82_24, e82_27, e82_28, e82_31, e82_32, e82_33, e82_34, e82_37, e82_38, e82_41, e82_42, e82_45, e82_48, e82_50, e82_53, e82_55, e82_56, e82_57, e82_58, e82_61, e82_64, e82_65, e82_66, e82_69, e82_75, e82_78, e82_79, am_k_some, va_rf_some, va_rf_none, tl_some, tl_none, am_clr_int, am_clr_ref, am_clr_none, am_clr_long, am_w_nil, am_w_int, am_w_ref, am_w_long, am_w_null, am_bb_0, am_bb_1, am_bb_bI, xK_sI, xR_sI, xS_sI, xN_sI, xK_sL, xR_sL, xS_sL, xN_sL, xK_sR, xR_sR, xS_sR, xN_sR, xK_sA, xR_sA, xS_sA, xN_sA, Nat.reduceAdd, Nat.reduceLeDiff, sI_sA, I_sA', sA_sA, I_sA, I_sA', nI_add, mul_nI, bI_0, bI_1, k.k, k.r0, k.k0, k.rl, k.r1, k.r10, k.ga, ix_nI, cl_nI, lt_nI, eq_nI, sub_nI, Nat.reduceEqDiff, Nat.one_ne_zero, Nat.not_lt_zero, ↓reduceIte, f]
  exact e
/-! setSail: its answer, what why() tells then, the ship -/
def saA (S : Nat → Int32) (L : Int64) : Int32 := if S 6501 = nI 1 then -2 else match fstR (farB S) (nm S) 0 with
  | some _ => -12
  | none => match fstR (leB S L) (S 6503).toNatClampNeg 0 with
    | some _ => -11
    | none => match fstR (skB S) (S 6503).toNatClampNeg 0 with
      | some _ => -13
      | none => nI 1
def saW (S : Nat → Int32) (L : Int64) : Int64 × Int64 × Int64 × Int64 := if S 6501 = nI 1 then (0, 0, 0, -1) else match fstR (farB S) (nm S) 0 with
  | some j => ((nI j).toInt64, 0, 0, -1)
  | none => match fstR (leB S L) (S 6503).toNatClampNeg 0 with
    | some j => if L < leanA S (nI j) then ((nI j).toInt64, 1, leanA S (nI j) - L, -1) else ((nI j).toInt64, -1, -L - leanA S (nI j), -1)
    | none => match fstR (skB S) (S 6503).toNatClampNeg 0 with
      | some j => ((nI j).toInt64, 0, 0, (skA S (nI j)).toInt64)
      | none => (0, 0, 0, -1)
def ReV (m : am_M) (R : Nat) (w : Int64 × Int64 × Int64 × Int64) : Prop := mL m R 0 = w.1 ∧ mL m R 1 = w.2.1 ∧ mL m R 2 = w.2.2.1 ∧ mL m R 3 = w.2.2.2
theorem ReV.re (m : am_M) (R : Nat) (a b c e : Int64) : ReV (reM m R a b c e) R (a, b, c, e) := ⟨reM_0 .., reM_1 .., reM_2 .., reM_3 ..⟩
theorem ReV.sA {m : am_M} {R x : Nat} {f : Nat → Int32} {w : Int64 × Int64 × Int64 × Int64} (h : ReV m R w) : ReV (sA m x f) R w := by
  unfold ReV
  rw [mL_sA]
  exact h
theorem AcV.clear {m : am_M} {o : Nat} {S' : Nat → Int32} (h : S' 6507 = nI 0) : AcV (sA m o (up1 (up1 (mI m o) 4 (nI 0)) 5 (nI 0))) o S' := by
  have ek : ak S' = 0 := by unfold ak; rw [h]; rfl
  unfold AcV
  rw [I_sA, up1_ne (by omega), up1_eq, h, ek]
  exact ⟨rfl, 0, by omega, up1_eq, fun j hj => by omega⟩
section SA
variable {d a R : Nat} {m m0 m1 m2 m3 : am_M}
theorem sp_78_s (k : ShK m a) (kr : mK m R = (1, 6, 0)) (k0 : ShK m0 a) (kr0 : mK m0 R = (1, 6, 0)) (st : cal (d + 4) 57 [.ref R, .long 0, .long 0, .long 0, .long (-1)] m = some (none, m0)) (q0 : cal (d + 4) 65 [.ref a] m0 = some (some (.int (nI 0)), m0)) : cal (d + 5) 78 [.ref a, .ref R] m = some (some (.int (-2)), m0) := by
  simp (disch := first | (simp (disch := omega) only [am_k_some, va_rf_some, va_rf_none, tl_some, tl_none, am_clr_int, am_clr_ref, am_clr_none, am_clr_long, am_w_nil, am_w_int, am_w_ref, am_w_long, am_w_null, am_bb_0, am_bb_1, am_bb_bI, xK_sI, xR_sI, xS_sI, xN_sI, xK_sL, xR_sL, xS_sL, xN_sL, xK_sR, xR_sR, xS_sR, xN_sR, xK_sA, xR_sA, xS_sA, xN_sA, Nat.reduceAdd, Nat.reduceLeDiff, sI_sA, I_sA', sA_sA, I_sA, I_sA', nI_add, mul_nI, bI_0, bI_1, k.k, kr, k0.k, k0.r2, k0.ac.k, kr0, ix_nI, cl_nI]; done) | omega | assumption) only [c78, e78_0, e78_1, e78_2, e78_3, e78_4, e78_7, e78_10, e78_11, e78_14, e78_17, e78_19, e78_20, e78_21, e78_22, e78_25, e78_28, e78_30, e78_31, e78_32, e78_33, e78_36, e78_39, e78_41, e78_42, e78_43, e78_44, e78_47, e78_50, e78_52, e78_53, e78_54, e78_55, e78_58, e78_59, e78_62, e78_65, e78_66, am_k_some, va_rf_some, va_rf_none, tl_some, tl_none, am_clr_int, am_clr_ref, am_clr_none, am_clr_long, am_w_nil, am_w_int, am_w_ref, am_w_long, am_w_null, am_bb_0, am_bb_1, am_bb_bI, xK_sI, xR_sI, xS_sI, xN_sI, xK_sL, xR_sL, xS_sL, xN_sL, xK_sR, xR_sR, xS_sR, xN_sR, xK_sA, xR_sA, xS_sA, xN_sA, Nat.reduceAdd, Nat.reduceLeDiff, sI_sA, I_sA', sA_sA, I_sA, I_sA', nI_add, mul_nI, bI_0, bI_1, k.k, ix_nI, cl_nI, lt_nI, eq_nI, sub_nI, Nat.reduceEqDiff, Nat.one_ne_zero, Nat.not_lt_zero, ↓reduceIte, n10, n01, st, q0, k0.k]
theorem sp_78_f (k : ShK m a) (kr : mK m R = (1, 6, 0)) (k0 : ShK m0 a) (kr0 : mK m0 R = (1, 6, 0)) (st : cal (d + 4) 57 [.ref R, .long 0, .long 0, .long 0, .long (-1)] m = some (none, m0)) (q0 : cal (d + 4) 65 [.ref a] m0 = some (some (.int (nI 1)), m0))
    (a79 : cal (d + 4) 79 [.ref a, .ref R] m0 = some (some (.int (nI 1)), m1)) : cal (d + 5) 78 [.ref a, .ref R] m = some (some (.int (-12)), m1) := by
  simp (disch := first | (simp (disch := omega) only [am_k_some, va_rf_some, va_rf_none, tl_some, tl_none, am_clr_int, am_clr_ref, am_clr_none, am_clr_long, am_w_nil, am_w_int, am_w_ref, am_w_long, am_w_null, am_bb_0, am_bb_1, am_bb_bI, xK_sI, xR_sI, xS_sI, xN_sI, xK_sL, xR_sL, xS_sL, xN_sL, xK_sR, xR_sR, xS_sR, xN_sR, xK_sA, xR_sA, xS_sA, xN_sA, Nat.reduceAdd, Nat.reduceLeDiff, sI_sA, I_sA', sA_sA, I_sA, I_sA', nI_add, mul_nI, bI_0, bI_1, k.k, kr, k0.k, k0.r2, k0.ac.k, kr0, ix_nI, cl_nI]; done) | omega | assumption) only [c78, e78_0, e78_1, e78_2, e78_3, e78_4, e78_7, e78_10, e78_11, e78_14, e78_17, e78_19, e78_20, e78_21, e78_22, e78_25, e78_28, e78_30, e78_31, e78_32, e78_33, e78_36, e78_39, e78_41, e78_42, e78_43, e78_44, e78_47, e78_50, e78_52, e78_53, e78_54, e78_55, e78_58, e78_59, e78_62, e78_65, e78_66, am_k_some, va_rf_some, va_rf_none, tl_some, tl_none, am_clr_int, am_clr_ref, am_clr_none, am_clr_long, am_w_nil, am_w_int, am_w_ref, am_w_long, am_w_null, am_bb_0, am_bb_1, am_bb_bI, xK_sI, xR_sI, xS_sI, xN_sI, xK_sL, xR_sL, xS_sL, xN_sL, xK_sR, xR_sR, xS_sR, xN_sR, xK_sA, xR_sA, xS_sA, xN_sA, Nat.reduceAdd, Nat.reduceLeDiff, sI_sA, I_sA', sA_sA, I_sA, I_sA', nI_add, mul_nI, bI_0, bI_1, k.k, ix_nI, cl_nI, lt_nI, eq_nI, sub_nI, Nat.reduceEqDiff, Nat.one_ne_zero, Nat.not_lt_zero, ↓reduceIte, n10, n01, st, q0, k0.k, a79]
theorem sp_78_l (k : ShK m a) (kr : mK m R = (1, 6, 0)) (k0 : ShK m0 a) (kr0 : mK m0 R = (1, 6, 0)) (st : cal (d + 4) 57 [.ref R, .long 0, .long 0, .long 0, .long (-1)] m = some (none, m0)) (q0 : cal (d + 4) 65 [.ref a] m0 = some (some (.int (nI 1)), m0))
    (a79 : cal (d + 4) 79 [.ref a, .ref R] m0 = some (some (.int (nI 0)), m0)) (a80 : cal (d + 4) 80 [.ref a, .ref R] m0 = some (some (.int (nI 1)), m1)) : cal (d + 5) 78 [.ref a, .ref R] m = some (some (.int (-11)), m1) := by
  simp (disch := first | (simp (disch := omega) only [am_k_some, va_rf_some, va_rf_none, tl_some, tl_none, am_clr_int, am_clr_ref, am_clr_none, am_clr_long, am_w_nil, am_w_int, am_w_ref, am_w_long, am_w_null, am_bb_0, am_bb_1, am_bb_bI, xK_sI, xR_sI, xS_sI, xN_sI, xK_sL, xR_sL, xS_sL, xN_sL, xK_sR, xR_sR, xS_sR, xN_sR, xK_sA, xR_sA, xS_sA, xN_sA, Nat.reduceAdd, Nat.reduceLeDiff, sI_sA, I_sA', sA_sA, I_sA, I_sA', nI_add, mul_nI, bI_0, bI_1, k.k, kr, k0.k, k0.r2, k0.ac.k, kr0, ix_nI, cl_nI]; done) | omega | assumption) only [c78, e78_0, e78_1, e78_2, e78_3, e78_4, e78_7, e78_10, e78_11, e78_14, e78_17, e78_19, e78_20, e78_21, e78_22, e78_25, e78_28, e78_30, e78_31, e78_32, e78_33, e78_36, e78_39, e78_41, e78_42, e78_43, e78_44, e78_47, e78_50, e78_52, e78_53, e78_54, e78_55, e78_58, e78_59, e78_62, e78_65, e78_66, am_k_some, va_rf_some, va_rf_none, tl_some, tl_none, am_clr_int, am_clr_ref, am_clr_none, am_clr_long, am_w_nil, am_w_int, am_w_ref, am_w_long, am_w_null, am_bb_0, am_bb_1, am_bb_bI, xK_sI, xR_sI, xS_sI, xN_sI, xK_sL, xR_sL, xS_sL, xN_sL, xK_sR, xR_sR, xS_sR, xN_sR, xK_sA, xR_sA, xS_sA, xN_sA, Nat.reduceAdd, Nat.reduceLeDiff, sI_sA, I_sA', sA_sA, I_sA, I_sA', nI_add, mul_nI, bI_0, bI_1, k.k, ix_nI, cl_nI, lt_nI, eq_nI, sub_nI, Nat.reduceEqDiff, Nat.one_ne_zero, Nat.not_lt_zero, ↓reduceIte, n10, n01, st, q0, k0.k, a79, a80]
theorem sp_78_k (k : ShK m a) (kr : mK m R = (1, 6, 0)) (k0 : ShK m0 a) (kr0 : mK m0 R = (1, 6, 0)) (st : cal (d + 4) 57 [.ref R, .long 0, .long 0, .long 0, .long (-1)] m = some (none, m0)) (q0 : cal (d + 4) 65 [.ref a] m0 = some (some (.int (nI 1)), m0))
    (a79 : cal (d + 4) 79 [.ref a, .ref R] m0 = some (some (.int (nI 0)), m0)) (a80 : cal (d + 4) 80 [.ref a, .ref R] m0 = some (some (.int (nI 0)), m0)) (a81 : cal (d + 4) 81 [.ref a, .ref R] m0 = some (some (.int (nI 1)), m1)) : cal (d + 5) 78 [.ref a, .ref R] m = some (some (.int (-13)), m1) := by
  simp (disch := first | (simp (disch := omega) only [am_k_some, va_rf_some, va_rf_none, tl_some, tl_none, am_clr_int, am_clr_ref, am_clr_none, am_clr_long, am_w_nil, am_w_int, am_w_ref, am_w_long, am_w_null, am_bb_0, am_bb_1, am_bb_bI, xK_sI, xR_sI, xS_sI, xN_sI, xK_sL, xR_sL, xS_sL, xN_sL, xK_sR, xR_sR, xS_sR, xN_sR, xK_sA, xR_sA, xS_sA, xN_sA, Nat.reduceAdd, Nat.reduceLeDiff, sI_sA, I_sA', sA_sA, I_sA, I_sA', nI_add, mul_nI, bI_0, bI_1, k.k, kr, k0.k, k0.r2, k0.ac.k, kr0, ix_nI, cl_nI]; done) | omega | assumption) only [c78, e78_0, e78_1, e78_2, e78_3, e78_4, e78_7, e78_10, e78_11, e78_14, e78_17, e78_19, e78_20, e78_21, e78_22, e78_25, e78_28, e78_30, e78_31, e78_32, e78_33, e78_36, e78_39, e78_41, e78_42, e78_43, e78_44, e78_47, e78_50, e78_52, e78_53, e78_54, e78_55, e78_58, e78_59, e78_62, e78_65, e78_66, am_k_some, va_rf_some, va_rf_none, tl_some, tl_none, am_clr_int, am_clr_ref, am_clr_none, am_clr_long, am_w_nil, am_w_int, am_w_ref, am_w_long, am_w_null, am_bb_0, am_bb_1, am_bb_bI, xK_sI, xR_sI, xS_sI, xN_sI, xK_sL, xR_sL, xS_sL, xN_sL, xK_sR, xR_sR, xS_sR, xN_sR, xK_sA, xR_sA, xS_sA, xN_sA, Nat.reduceAdd, Nat.reduceLeDiff, sI_sA, I_sA', sA_sA, I_sA, I_sA', nI_add, mul_nI, bI_0, bI_1, k.k, ix_nI, cl_nI, lt_nI, eq_nI, sub_nI, Nat.reduceEqDiff, Nat.one_ne_zero, Nat.not_lt_zero, ↓reduceIte, n10, n01, st, q0, k0.k, a79, a80, a81]
theorem sp_78_o (k : ShK m a) (kr : mK m R = (1, 6, 0)) (k0 : ShK m0 a) (kr0 : mK m0 R = (1, 6, 0)) (st : cal (d + 4) 57 [.ref R, .long 0, .long 0, .long 0, .long (-1)] m = some (none, m0)) (q0 : cal (d + 4) 65 [.ref a] m0 = some (some (.int (nI 1)), m0))
    (a79 : cal (d + 4) 79 [.ref a, .ref R] m0 = some (some (.int (nI 0)), m0)) (a80 : cal (d + 4) 80 [.ref a, .ref R] m0 = some (some (.int (nI 0)), m0)) (a81 : cal (d + 4) 81 [.ref a, .ref R] m0 = some (some (.int (nI 0)), m1)) (kg : ShK m1 a) :
    cal (d + 5) 78 [.ref a, .ref R] m = some (some (.int (nI 1)), sA (sA m1 a (up1 (mI m1 a) 9 (nI 0))) (a + 12) (up1 (up1 (mI m1 (a + 12)) 4 (nI 0)) 5 (nI 0))) := by
  have cl := sp_1 (d := d + 4) (m := sA m1 a (up1 (mI m1 a) 9 (nI 0))) (o := a + 12) kg.ac
  rw [I_sA' _ _ (by omega)] at cl
  simp (disch := first | (simp (disch := omega) only [am_k_some, va_rf_some, va_rf_none, tl_some, tl_none, am_clr_int, am_clr_ref, am_clr_none, am_clr_long, am_w_nil, am_w_int, am_w_ref, am_w_long, am_w_null, am_bb_0, am_bb_1, am_bb_bI, xK_sI, xR_sI, xS_sI, xN_sI, xK_sL, xR_sL, xS_sL, xN_sL, xK_sR, xR_sR, xS_sR, xN_sR, xK_sA, xR_sA, xS_sA, xN_sA, Nat.reduceAdd, Nat.reduceLeDiff, sI_sA, I_sA', sA_sA, I_sA, I_sA', nI_add, mul_nI, bI_0, bI_1, k.k, kr, k0.k, k0.r2, k0.ac.k, kr0, kg.k, kg.r2, kg.ac.k, ix_nI, cl_nI]; done) | omega | assumption) only [c78, e78_0, e78_1, e78_2, e78_3, e78_4, e78_7, e78_10, e78_11, e78_14, e78_17, e78_19, e78_20, e78_21, e78_22, e78_25, e78_28, e78_30, e78_31, e78_32, e78_33, e78_36, e78_39, e78_41, e78_42, e78_43, e78_44, e78_47, e78_50, e78_52, e78_53, e78_54, e78_55, e78_58, e78_59, e78_62, e78_65, e78_66, am_k_some, va_rf_some, va_rf_none, tl_some, tl_none, am_clr_int, am_clr_ref, am_clr_none, am_clr_long, am_w_nil, am_w_int, am_w_ref, am_w_long, am_w_null, am_bb_0, am_bb_1, am_bb_bI, xK_sI, xR_sI, xS_sI, xN_sI, xK_sL, xR_sL, xS_sL, xN_sL, xK_sR, xR_sR, xS_sR, xN_sR, xK_sA, xR_sA, xS_sA, xN_sA, Nat.reduceAdd, Nat.reduceLeDiff, sI_sA, I_sA', sA_sA, I_sA, I_sA', nI_add, mul_nI, bI_0, bI_1, k.k, ix_nI, cl_nI, lt_nI, eq_nI, sub_nI, Nat.reduceEqDiff, Nat.one_ne_zero, Nat.not_lt_zero, ↓reduceIte, n10, n01, st, q0, k0.k, a79, a80, a81, kg.k, kg.r2, kg.ac.k, cl]
end SA
theorem ShV.sail {a : Nat} {m : am_M} {S : Nat → Int32} {L : Int64} (v : ShV m a S L) (W : Wf S) : ShV (sA (sA m a (up1 (mI m a) 9 (nI 0))) (a + 12) (up1 (up1 (mI m (a + 12)) 4 (nI 0)) 5 (nI 0))) a (sailE S) L := by
  have off : ∀ y, y ≠ 6501 → y ≠ 6502 → y ≠ 6507 → sailE S y = S y := fun y h1 h2 h3 => by unfold sailE; rw [up1_ne h3, up1_ne h2, up1_ne h1]
  have al : AgL S (sailE S) := ⟨fun y hy => off y (by omega) (by omega) (by omega), off _ (by omega) (by omega) (by omega)⟩
  have e2 : sailE S 6502 = nI 0 := by unfold sailE; rw [up1_ne (by omega), up1_eq]
  have e7 : sailE S 6507 = nI 0 := by unfold sailE; rw [up1_eq]
  have hm : ∀ x, x ≠ a → x ≠ a + 12 → mI (sA (sA m a (up1 (mI m a) 9 (nI 0))) (a + 12) (up1 (up1 (mI m (a + 12)) 4 (nI 0)) 5 (nI 0))) x = mI m x := fun x x1 x2 => by rw [I_sA' _ _ x2, I_sA' _ _ x1]
  refine ⟨fun i hi => al.la W.nm W.ln hi ((v.la hi).mem (hm _ (by omega) (by omega)) (hm _ (by omega) (by omega))), al.lo W.nm (v.lo.mem fun k hk => hm _ (by omega) (by omega)), ?_, ?_, ?_, ?_, ?_⟩
  · have := AcV.clear (m := sA m a (up1 (mI m a) 9 (nI 0))) (o := a + 12) e7
    rw [I_sA' _ _ (by omega)] at this
    exact this
  · exact (v.pl.mem (fun k hk => hm _ (by omega) (by omega))).arr (fun y y1 y2 => off _ (by omega) (by omega) (by omega))
  · exact (v.ash.mem (hm _ (by omega) (by omega)) (hm _ (by omega) (by omega))).arr W.m1 (off _ (by omega) (by omega) (by omega)) (fun j hj => off _ (by omega) (by omega) (by omega))
  · exact (v.dep.mem (hm _ (by omega) (by omega)) (hm _ (by omega) (by omega))).arr W.m2 (off _ (by omega) (by omega) (by omega)) (fun j hj => off _ (by omega) (by omega) (by omega))
  · unfold ScV
    rw [I_sA' _ _ (by omega), I_sA, up1_ne (by omega), up1_ne (by omega), up1_eq, e2, off _ (by omega) (by omega) (by omega), off _ (by omega) (by omega) (by omega)]
    exact ⟨v.sc.1, v.sc.2.1, v.sc.2.2.1, rfl⟩
theorem sp_78 {d a R : Nat} {m : am_M} {S : Nat → Int32} {L : Int64} (k : ShK m a) (v : ShV m a S L) (W : Wf S) (kr : mK m R = (1, 6, 0)) (hR : R < a ∨ a + 66 ≤ R) :
    ∃ m', cal (d + 5) 78 [.ref a, .ref R] m = some (some (.int (saA S L)), m') ∧ FrR a R m m' ∧ ShV m' a (if saA S L = nI 1 then sailE S else S) L ∧ ReV m' R (saW S L) := by
  have st := sp_57 (d := d + 4) (a := 0) (b := 0) (c := 0) (e := -1) kr
  have v0 := v.re hR 0 0 0 (-1)
  have f0 : FrR a R m (reM m R 0 0 0 (-1)) := FrR.re m 0 0 0 (-1)
  have r0 : ReV (reM m R 0 0 0 (-1)) R (0, 0, 0, -1) := ReV.re ..
  have k0 : ShK (reM m R 0 0 0 (-1)) a := k.frR f0
  have kr0 : mK (reM m R 0 0 0 (-1)) R = (1, 6, 0) := by rw [f0.2.2.1]; exact kr
  generalize reM m R 0 0 0 (-1) = m0 at *
  have q0 := sp_65w (d := d + 4) k0 v0 W.y
  have a79 := sp_79 (d := d + 2) k0 v0 W kr0
  obtain ⟨F, a81⟩ := sp_81 (d := d) k0 v0 W kr0
  have fg : FrR a R m0 (sA m0 (a + 25) F) := ((Fr.refl a m0).sA (b := a + 25) (f := F) (by omega) (by omega)).r R
  have vg : ShV (sA m0 (a + 25) F) a S L := v0.gate
  have kg : ShK (sA m0 (a + 25) F) a := k0.frR fg
  have rg : ReV (sA m0 (a + 25) F) R (0, 0, 0, -1) := r0.sA
  generalize sA m0 (a + 25) F = m1 at *
  by_cases hs : S 6501 = nI 1
  · have e1 : saA S L = -2 := by unfold saA; rw [if_pos hs]
    have e2 : saW S L = (0, 0, 0, -1) := by unfold saW; rw [if_pos hs]
    rw [decide_eq_true hs] at q0
    rw [e1, e2, if_neg (by decide)]
    exact ⟨m0, sp_78_s k kr k0 kr0 st q0, f0, v0, r0⟩
  rw [decide_eq_false hs] at q0
  have a80 := sp_80 (d := d + 1) k0 v0 W kr0 hs
  cases h1 : fstR (farB S) (nm S) 0 with
  | some j =>
    have e1 : saA S L = -12 := by unfold saA; rw [if_neg hs, h1]
    have e2 : saW S L = ((nI j).toInt64, 0, 0, -1) := by unfold saW; rw [if_neg hs, h1]
    rw [h1] at a79
    rw [e1, e2, if_neg (by decide)]
    exact ⟨_, sp_78_f k kr k0 kr0 st q0 a79, f0.trans (FrR.re m0 (nI j).toInt64 0 0 (-1)), v0.re hR _ _ _ _, ReV.re ..⟩
  | none =>
    rw [h1] at a79
    cases h2 : fstR (leB S L) (S 6503).toNatClampNeg 0 with
    | some j =>
      have e1 : saA S L = -11 := by unfold saA; rw [if_neg hs, h1, h2]
      have e2 : saW S L = if L < leanA S (nI j) then ((nI j).toInt64, 1, leanA S (nI j) - L, -1) else ((nI j).toInt64, -1, -L - leanA S (nI j), -1) := by unfold saW; rw [if_neg hs, h1, h2]
      rw [h2] at a80
      unfold lwM at a80
      dsimp only at a80
      rw [e1, e2, if_neg (by decide)]
      by_cases hl : L < leanA S (nI j)
      · rw [if_pos hl] at a80
        rw [if_pos hl]
        exact ⟨_, sp_78_l k kr k0 kr0 st q0 a79 a80, f0.trans (FrR.re m0 (nI j).toInt64 1 (leanA S (nI j) - L) (-1)), v0.re hR _ _ _ _, ReV.re ..⟩
      · rw [if_neg hl] at a80
        rw [if_neg hl]
        exact ⟨_, sp_78_l k kr k0 kr0 st q0 a79 a80, f0.trans (FrR.re m0 (nI j).toInt64 (-1) (-L - leanA S (nI j)) (-1)), v0.re hR _ _ _ _, ReV.re ..⟩
    | none =>
      rw [h2] at a80
      cases h3 : fstR (skB S) (S 6503).toNatClampNeg 0 with
      | some j =>
        have e1 : saA S L = -13 := by unfold saA; rw [if_neg hs, h1, h2, h3]
        have e2 : saW S L = ((nI j).toInt64, 0, 0, (skA S (nI j)).toInt64) := by unfold saW; rw [if_neg hs, h1, h2, h3]
        rw [h3] at a81
        rw [e1, e2, if_neg (by decide)]
        exact ⟨_, sp_78_k k kr k0 kr0 st q0 a79 a80 a81, (f0.trans fg).trans (FrR.re _ (nI j).toInt64 0 0 (skA S (nI j)).toInt64), vg.re hR _ _ _ _, ReV.re ..⟩
      | none =>
        have e1 : saA S L = nI 1 := by unfold saA; rw [if_neg hs, h1, h2, h3]
        have e2 : saW S L = (0, 0, 0, -1) := by unfold saW; rw [if_neg hs, h1, h2, h3]
        rw [h3] at a81
        rw [e1, e2, if_pos rfl]
        exact ⟨_, sp_78_o k kr k0 kr0 st q0 a79 a80 a81 kg, (f0.trans fg).trans ((((Fr.refl a m1).sA (b := a) (by omega) (by omega)).sA (b := a + 12) (by omega) (by omega)).r R), vg.sail W, rg.sA.sA⟩
